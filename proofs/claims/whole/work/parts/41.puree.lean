theorem yvn_fi (W : Nat → Nat) (back j : Nat) : fi (yvn W back j) = yv (fun x => pv W 80 x) (fi back) j := by
  induction j with
  | zero => rfl
  | succ j ih =>
    show fi ((yvn W back j + hn W j 80 0) % 10007 * back % 10007) = (yv (fun x => pv W 80 x) (fi back) j + pv W 80 (fi j)) * fi back
    rw [fi_mod, fi_mul, fi_mod, fi_add, ih, hn_pv]
theorem dfv_fi {v : Nat → Nat} (hv : ∀ j, v j < 10007) : ∀ i j, j ≤ 32 → fi (dfv v i j) = if i ≤ j then df (fun k => fi (v k)) i (j - i) else df (fun k => fi (v k)) j 0 := by
  intro i
  induction i with
  | zero => intro j _; rw [if_pos (by omega)]; rfl
  | succ i ih =>
    intro j hj
    by_cases h : i + 1 ≤ j
    · rw [if_pos h]
      show fi (if i + 1 ≤ j ∧ j ≤ 32 then (dfv v i j + (10007 - dfv v i (j - 1))) % 10007 else dfv v i j) = df (fun k => fi (v k)) i (j - (i + 1) + 1) - df (fun k => fi (v k)) i (j - (i + 1))
      have h7 := dfv_lt hv i (j - 1)
      rw [if_pos ⟨h, hj⟩, fi_mod, fi_add, fi_cmp (by omega), ih j hj, ih (j - 1) (by omega), if_pos (by omega), if_pos (by omega), show j - (i + 1) + 1 = j - i by omega, show j - 1 - i = j - (i + 1) by omega]
      grobner
    · rw [if_neg h]
      show fi (if i + 1 ≤ j ∧ j ≤ 32 then (dfv v i j + (10007 - dfv v i (j - 1))) % 10007 else dfv v i j) = _
      rw [if_neg (by omega), ih j hj]
      by_cases h2 : i ≤ j
      · rw [if_pos h2, show j - i = 0 by omega, show j = i by omega]
      · rw [if_neg h2]
theorem df_loc {y w : Nat → Fp} {n : Nat} (h : ∀ k, k ≤ n → y k = w k) : ∀ i j, i + j ≤ n → df y i j = df w i j := by
  intro i
  induction i with
  | zero => intro j hj; exact h j (by omega)
  | succ i ih =>
    intro j hj
    show df y i (j + 1) - df y i j = df w i (j + 1) - df w i j
    rw [ih (j + 1) (by omega), ih j (by omega)]
theorem dvy_fi (W : Nat → Nat) (back j : Nat) (hj : j ≤ 32) : fi (dfv (vls W back) 32 j) = df (yv (fun x => pv W 80 x) (fi back)) j 0 := by
  have h1 := dfv_fi (vls_lt W back) 32 j hj
  have h2 : (if 32 ≤ j then df (fun k => fi (vls W back k)) 32 (j - 32) else df (fun k => fi (vls W back k)) j 0) = df (fun k => fi (vls W back k)) j 0 := by
    split
    · rw [show j = 32 by omega]
    · rfl
  rw [h1, h2]
  refine df_loc (n := 32) (fun k hk => ?_) j 0 (by omega)
  show fi (vls W back k) = _
  unfold vls
  rw [if_pos (by omega), yvn_fi]
theorem pwn_fi (a s i : Nat) : fi (pwn a s i) = fi a * px (fi s) i := by
  induction i with
  | zero => rw [px_0]; show fi a = fi a * 1; grobner
  | succ i ih =>
    show fi (pwn a s i * s % 10007) = _
    rw [fi_mod, fi_mul, ih, px_s]
    grobner
theorem fi_pred {a : Nat} : fi ((a + 10006) % 10007) = fi a - 1 := by
  have h : fi 10006 = -1 := by decide
  rw [fi_mod, fi_add, h]
  grobner
theorem fcn_fi : ∀ i, fi (fcn i) = fc i := by
  intro i
  induction i with
  | zero => rfl
  | succ i ih =>
    show fi (fcn i * (i + 1) % 10007) = fi (i + 1) * fc i
    rw [fi_mod, fi_mul, ih]
    grobner
theorem canc2 {f c i : Fp} (h : f * i = 1) : f * c * i = c := by grobner
theorem gfd_fi : ∀ n, n ≤ 32 → fi (gfd n) = fc (32 - n) := by
  intro n
  induction n with
  | zero => intro _; exact fcn_fi 32
  | succ n ih =>
    intro hn
    have h1 := ih (by omega)
    have h2 : fc (32 - n) = fi (32 - n) * fc (32 - (n + 1)) := by
      rw [show 32 - n = (32 - (n + 1)) + 1 by omega]
      rfl
    have h3 : fi (32 - n) ≠ 0 := fi_ne (by omega) (by omega)
    show fi (gfd n * iv (32 - n) % 10007) = _
    rw [fi_mod, fi_mul, iv_fi, h1, h2]
    exact canc2 (mul_inv h3)
def svc (z : Nat) (W : Nat → Nat) (i : Nat) : Fp := fi (svl z W i) * inv (fc i)
theorem hnw_pv {F : Nat → Nat} : ∀ n i, i + n = 33 → okP n (hnw F n i) ∧ ∀ x, pv (hnw F n i) 80 x = hw (fun i => fi (F i) * inv (fc i)) n i x := by
  intro n
  induction n with
  | zero =>
    intro i _
    exact ⟨⟨fun _ => (by decide : 0 < 10007), fun _ _ => rfl⟩, fun x => ev_zero (fun _ _ => rfl) x⟩
  | succ n ih =>
    intro i hi
    obtain ⟨h1, h2⟩ := ih (i + 1) (by omega)
    have hm := mt_w (b := rt i) h1 (by omega)
    have hok : okP (n + 1) (mt 80 (rt i) (hnw F n (i + 1))) := by rw [hm.1]; exact hm.2
    refine ⟨va_ok hok (by omega) (Nat.mod_lt _ (by decide)), fun x => ?_⟩
    show pv (va_up (mt 80 (rt i) (hnw F n (i + 1))) 0 ((mt 80 (rt i) (hnw F n (i + 1)) 0 + F i * iv (gfd (32 - i)) % 10007) % 10007)) (79 + 1) x = fi (F i) * inv (fc i) + (x - fi i) * hw (fun i => fi (F i) * inv (fc i)) n (i + 1) x
    rw [pv_up0, pv_mt (m := n) (by omega) h1.2, h2 x, fi_mod, fi_mul, iv_fi, gfd_fi (32 - i) (by omega), fi_rt (by omega), show 32 - (32 - i) = i by omega]
    grobner
