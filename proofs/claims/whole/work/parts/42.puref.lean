theorem ev_up (f : Nat → Fp) (c : Fp) (x : Fp) : ∀ n j, j < n → ev (va_up f j c) n x = ev f n x + (c - f j) * px x j := by
  intro n
  induction n generalizing f with
  | zero => intro j hj; omega
  | succ n ih =>
    intro j hj
    cases j with
    | zero =>
      show va_up f 0 c 0 + x * ev (fun i => va_up f 0 c (i + 1)) n x = f 0 + x * ev (fun i => f (i + 1)) n x + (c - f 0) * px x 0
      rw [va_up_s, px_0, ev_ext (f := fun i => va_up f 0 c (i + 1)) (g := fun i => f (i + 1)) (fun i _ => va_up_n (by omega))]
      grobner
    | succ j =>
      show va_up f (j + 1) c 0 + x * ev (fun i => va_up f (j + 1) c (i + 1)) n x = f 0 + x * ev (fun i => f (i + 1)) n x + (c - f (j + 1)) * px x (j + 1)
      rw [va_up_n (by omega), ev_ext (f := fun i => va_up f (j + 1) c (i + 1)) (g := va_up (fun i => f (i + 1)) j c) (fun i _ => by
        unfold va_up
        by_cases h : i = j
        · rw [if_pos h, if_pos (by omega)]
        · rw [if_neg h, if_neg (by omega)]), ih (fun i => f (i + 1)) j (by omega), px_s]
      grobner
theorem pv_up {X : Nat → Nat} {j c n : Nat} (hj : j < n) (x : Fp) : pv (va_up X j c) n x = pv X n x + (fi c - fi (X j)) * px x j := by
  unfold pv
  rw [← ev_up (fun j => fi (X j)) (fi c) x n j hj]
  refine ev_ext (fun i _ => ?_) x
  unfold va_up
  split <;> rfl
theorem mtN_s (n b : Nat) : ∀ (t : Nat) (f : Nat → Nat), mtN n b (t + 1) f = mt n b (mtN n b t f)
  | 0, _ => rfl
  | t + 1, f => mtN_s n b t (mt n b f)
theorem lin0_ok {z : Nat} (hz : z < 10007) : okP 1 (lin 0 z) := by
  refine ⟨(lin_ok (n := 2) (by decide) hz (by decide)).1, fun i hi => ?_⟩
  unfold lin
  rw [if_neg (by omega)]
  split <;> rfl
theorem pv_lin0 {z : Nat} (hz : z < 10007) (x : Fp) : pv (lin 0 z) 80 x = fi z := by
  rw [pv_le (m := 80) (n := 1) (by omega) (lin0_ok hz).2]
  show fi z + x * 0 = fi z
  grobner
theorem mtc {z : Nat} (hz : z < 10007) : ∀ j, j < 60 → okP (j + 1) (mtN 64 1 j (lin 0 z)) ∧ fi (mtN 64 1 j (lin 0 z) j) = fi z ∧ (0 < j → fi (mtN 64 1 j (lin 0 z) (j - 1)) = fi j * fi z) := by
  intro j
  induction j with
  | zero => intro _; exact ⟨lin0_ok hz, rfl, fun h => by omega⟩
  | succ j ih =>
    intro hj
    obtain ⟨h1, h2, h3⟩ := ih (by omega)
    have hm := mt_w (b := 1) h1 (by omega)
    rw [mtN_s]
    have at_ : ∀ i, i < 64 → fi (mt 64 1 (mtN 64 1 j (lin 0 z)) i) = fi (mtN 64 1 j (lin 0 z) i) + (if i = 0 then 0 else fi (mtN 64 1 j (lin 0 z) (i - 1))) := by
      intro i hi
      unfold mt
      rw [if_pos hi, fi_mod, fi_add, fi_mul, fi_1]
      by_cases h0 : i = 0
      · rw [if_pos h0, if_pos h0, fi_0]; grobner
      · rw [if_neg h0, if_neg h0]; grobner
    refine ⟨hm.2, ?_, fun _ => ?_⟩
    · rw [at_ (j + 1) (by omega), if_neg (by omega), h1.2 (j + 1) (by omega), show j + 1 - 1 = j by omega, h2, fi_0]
      grobner
    · rw [show j + 1 - 1 = j by omega, at_ j (by omega), h2]
      by_cases h0 : j = 0
      · rw [if_pos h0, h0, fi_1]
        grobner
      · rw [if_neg h0, h3 (by omega), fi_add, fi_1]
        grobner
theorem dpw_pv {z j : Nat} (hz : z < 10007) (hj : j < 60) (x : Fp) : pv (dpw z j) 80 x = fi z * px (x + 1) j - px x j := by
  have h1 := mtN_w (b := 1) j (lin0_ok hz) (by omega)
  have h2 := (mtN_pv (b := 1) x j (lin0_ok hz) (by omega)).1
  rw [h1.1, pv_lin0 hz, fi_1] at h2
  unfold dpw
  rw [pv_up (by omega), h2, fi_mod, fi_add, show fi 10006 = -1 by decide]
  grobner
theorem dpw_z {z j : Nat} (hz : z < 10007) (hj : j < 60) : okP (j + 1) (dpw z j) ∧ fi (dpw z j j) = fi z - 1 ∧ (0 < j → fi (dpw z j (j - 1)) = fi j * fi z) := by
  obtain ⟨h1, h2, h3⟩ := mtc hz j hj
  unfold dpw
  refine ⟨va_ok h1 (by omega) (Nat.mod_lt _ (by decide)), ?_, fun h0 => ?_⟩
  · rw [va_up_s, fi_mod, fi_add, h2, show fi 10006 = -1 by decide]
    grobner
  · rw [va_up_n (by omega)]
    exact h3 h0
theorem dpw_ld {z i : Nat} (hz0 : 0 < z) (hz : z < 10007) (hi : i < 40) : fi (dpw z (pj z i) i) = fi (ld z i) ∧ ∀ k, i < k → dpw z (pj z i) k = 0 := by
  unfold pj ld
  by_cases h1 : z = 1
  · rw [if_pos h1, if_pos h1, h1]
    obtain ⟨a1, a2, a3⟩ := dpw_z (z := 1) (j := i + 1) (by omega) (by omega)
    have a4 := a3 (by omega)
    rw [show i + 1 - 1 = i by omega] at a4
    refine ⟨by rw [a4, fi_1]; grobner, fun k hk => ?_⟩
    by_cases h2 : k = i + 1
    · rw [h2]
      refine fi_inj (a1.1 _) (by omega) ?_
      rw [a2, fi_1, fi_0]
      grobner
    · exact a1.2 k (by omega)
  · rw [if_neg h1, if_neg h1]
    obtain ⟨a1, a2, -⟩ := dpw_z (z := z) (j := i) hz (by omega)
    refine ⟨?_, fun k hk => a1.2 k (by omega)⟩
    have : fi z = fi (z - 1) + 1 := by rw [← fi_1, ← fi_add, show z - 1 + 1 = z by omega]
    rw [a2, this]
    grobner
theorem canc3 {r l i : Fp} (h : l * i = 1) : r + l * -(r * i) = 0 := by grobner
def dg (z : Nat) : Nat := if z = 1 then 33 else 32
theorem swh_inv {z : Nat} (hz0 : 0 < z) (hz : z < 10007) : ∀ i R X, i ≤ 32 → okP i R → okP (dg z) X → (∀ k, k < i → X (pj z k) = 0) → (z = 1 → X 0 = 0) → okP (dg z) (swh z i R X) ∧ (z = 1 → swh z i R X 0 = 0) ∧ ∀ x, fi z * pv (swh z i R X) 80 (x + 1) - pv (swh z i R X) 80 x = fi z * pv X 80 (x + 1) - pv X 80 x + pv R 80 x := by
  intro i
  induction i with
  | zero =>
    intro R X _ hR hX _ h0
    refine ⟨hX, h0, fun x => ?_⟩
    have : pv R 80 x = 0 := ev_zero (fun k _ => by rw [hR.2 k (by omega)]; rfl) x
    show fi z * pv X 80 (x + 1) - pv X 80 x = _
    rw [this]
    grobner
  | succ i ih =>
    intro R X hi hR hX hXz h0
    have hj : pj z i < dg z := by unfold pj dg; split <;> omega
    have hd33 : dg z ≤ 33 := by unfold dg; split <;> omega
    have hl0 : 0 < ld z i := by unfold ld; split <;> omega
    have hl7 : ld z i < 10007 := by unfold ld; split <;> omega
    obtain ⟨hl, hab⟩ := dpw_ld hz0 hz (i := i) (by omega)
    have hiv := mul_inv (fi_ne hl0 hl7)
    obtain ⟨c, hc⟩ : ∃ c, c = R i * iv (ld z i) % 10007 := ⟨_, rfl⟩
    have hc7 : c < 10007 := by rw [hc]; exact Nat.mod_lt _ (by decide)
    have hcf : fi c = fi (R i) * inv (fi (ld z i)) := by rw [hc, fi_mod, fi_mul, iv_fi]
    have hcn : fi ((10007 - c) % 10007) = -fi c := by rw [fi_mod, fi_cmp (by omega)]
    have hX2 : okP (dg z) (va_up X (pj z i) c) := va_ok hX hj hc7
    have hR2 : okP i (ads 64 ((10007 - c) % 10007) R (dpw z (pj z i))) := by
      refine ⟨(ads_ok 64 _ _ _).1, fun k hk => ?_⟩
      unfold ads
      split
      · by_cases hki : k = i
        · rw [hki]
          refine fi_inj (Nat.mod_lt _ (by decide)) (by omega) ?_
          rw [fi_mod, fi_add, fi_mul, hcn, hl, hcf, fi_0]
          exact canc3 hiv
        · rw [hR.2 k (by omega), hab k (by omega), Nat.zero_mul]
      · rfl
    have hst : swh z (i + 1) R X = swh z i (ads 64 ((10007 - c) % 10007) R (dpw z (pj z i))) (va_up X (pj z i) c) := by rw [hc]; rfl
    obtain ⟨k1, k2, k3⟩ := ih (ads 64 ((10007 - c) % 10007) R (dpw z (pj z i))) (va_up X (pj z i) c) (by omega) hR2 hX2 (fun k hk => by
      rw [va_up_n (by unfold pj; split <;> omega)]
      exact hXz k (by omega)) (fun h1 => by
      rw [va_up_n (by unfold pj; rw [if_pos h1]; omega)]
      exact h0 h1)
    rw [hst]
    refine ⟨k1, k2, fun x => ?_⟩
    have hx0 := hXz i (by omega)
    have hra : pv (ads 64 ((10007 - c) % 10007) R (dpw z (pj z i))) 80 x = pv R 80 x + -fi c * (fi z * px (x + 1) (pj z i) - px x (pj z i)) := by
      rw [← ads_w (hR.mono (by omega)) (dpw_ok hz (by omega)), pv_ads, hcn, dpw_pv hz (by omega)]
    rw [k3 x, pv_up (by omega), pv_up (by omega), hx0, hra, fi_0]
    grobner
theorem nw_hw (c : Nat → Fp) (x : Fp) : nw c 33 x = hw c 33 0 x := by
  have h := hw_nw c 33 0 x
  rw [Nat.zero_add] at h
  rw [h]
  show 0 + 1 * hw c 33 0 x = _
  grobner
theorem pv_0 (f : Nat → Nat) (n : Nat) : pv f (n + 1) 0 = fi (f 0) := by
  show fi (f 0) + 0 * _ = _
  grobner
theorem nw_ext {c d : Nat → Fp} (x : Fp) : ∀ n, (∀ i, i < n → c i = d i) → nw c n x = nw d n x := by
  intro n
  induction n with
  | zero => intro _; rfl
  | succ n ih =>
    intro h
    show nw c n x + c n * ff x n = nw d n x + d n * ff x n
    rw [ih (fun i hi => h i (by omega)), h n (by omega)]
theorem PF.pvk {f : Nat → Nat} {n : Nat} (hn : n ≤ 80) (h : okP n f) : PF n (fun x => pv f 80 x) := (PF.evf (fun j => fi (f j)) n).congr (fun x => by rw [pv_le hn h.2]; rfl)
theorem sol_eq {z : Nat} {Q : Nat → Nat} (hz0 : 0 < z) (hz : z < 10007) (hQ : okP 32 Q) : hnw (svl z Q) 33 0 = swh z (tp Q 64) Q (fun _ => 0) ∧ okP 33 (hnw (svl z Q) 33 0) := by
  have htp : tp Q 64 ≤ 32 := by
    rw [show (64 : Nat) = 32 + 32 by rfl, tp_more 32 hQ.2]
    exact tp_le _ _
  have hQt : okP (tp Q 64) Q := ⟨hQ.1, fun i hi => (hQ.mono (m := 64) (by omega)).tz hi⟩
  obtain ⟨k1, k2, k3⟩ := swh_inv hz0 hz (tp Q 64) Q (fun _ => 0) htp hQt ⟨fun _ => (by decide : 0 < 10007), fun _ _ => rfl⟩ (fun _ _ => rfl) (fun _ => rfl)
  revert k1 k2 k3
  generalize swh z (tp Q 64) Q (fun _ => 0) = X
  intro k1 k2 k3
  obtain ⟨h1, h2⟩ := hnw_pv (F := svl z Q) 33 0 rfl
  have hd33 : dg z ≤ 33 := by unfold dg; split <;> omega
  have k3 : ∀ x, fi z * pv X 80 (x + 1) - pv X 80 x = pv Q 80 x := by
    intro x
    have h := k3 x
    have hz1 : ∀ y, pv (fun _ => 0) 80 y = 0 := fun y => ev_zero (fun _ _ => rfl) y
    rw [hz1, hz1] at h
    rw [h]
    grobner
  have hzb : fi z * fi (iv z) = 1 := by rw [iv_fi]; exact mul_inv (fi_ne hz0 hz)
  refine ⟨?_, h1⟩
  refine pv_eq (n := 80) (by omega) (h1.mono (by omega)) (k1.mono (by omega)) (fun x _ => ?_)
  rw [h2 x, ← nw_hw]
  by_cases hz1 : z = 1
  · have hfz : fi z = 1 := by rw [hz1]; rfl
    have hb : fi (iv z) = 1 := by rw [hfz] at hzb; grobner
    have h0 : pv X 80 0 = 0 := by rw [show (80 : Nat) = 79 + 1 by rfl, pv_0, k2 hz1]; rfl
    rw [← slv_1 (X := fun x => pv X 80 x) (W := fun x => pv Q 80 x) (PF.pvk (by omega) (k1.mono hd33)) h0 (fun y => by have h := k3 y; rw [hfz] at h; exact h) x]
    refine nw_ext x 33 (fun i hi => ?_)
    show fi (svl z Q i) * inv (fc i) = _
    rw [show svl z Q i = dfv (vls Q (iv z)) 32 i by unfold svl; rw [if_pos hz1], dvy_fi Q (iv z) i (by omega), hb]
  · have hz1' : fi z ≠ 1 := by
      intro h
      exact hz1 (fi_inj hz (by omega) (by rw [h]; rfl))
    have h32 : dg z = 32 := by unfold dg; rw [if_neg hz1]
    rw [← slv_z hzb hz1' (X := fun x => pv X 80 x) (W := fun x => pv Q 80 x) (PF.pvk (by omega) (k1.mono (by omega))) k3 x]
    refine nw_ext x 33 (fun i hi => ?_)
    show fi (svl z Q i) * inv (fc i) = _
    rw [show svl z Q i = (dfv (vls Q (iv z)) 32 i + pwn (fst0 (dfv (vls Q (iv z)) 32) ((iv z + 10006) % 10007)) ((iv z + 10006) % 10007) i) % 10007 by unfold svl; rw [if_neg hz1]; unfold cor; rw [if_pos hi]]
    have hl := dfv_lt (vls_lt Q (iv z)) 32 32
    have hfs : fi (fst0 (dfv (vls Q (iv z)) 32) ((iv z + 10006) % 10007)) = (-df (yv (fun x => pv Q 80 x) (fi (iv z))) 32 0) * inv (px (fi (iv z) - 1) 32) := by
      unfold fst0
      rw [fi_mod, fi_mul, fi_mod, fi_cmp (Nat.le_of_lt hl), iv_fi, pw_fi (by decide), fi_pred, dvy_fi Q (iv z) 32 (by omega)]
    rw [fi_mod, fi_add, pwn_fi, hfs, fi_pred, dvy_fi Q (iv z) i (by omega)]
theorem whl_eq {z : Nat} {e N : Nat → Nat} (hz0 : 0 < z) (hz : z < 10007) (hN : okP 32 N) : hnw (svl z (qdv e 8 N)) 33 0 = whl z e N ∧ okP 33 (whl z e N) := by
  have h := sol_eq hz0 hz (qdv_32 (e := e) hN 8)
  unfold whl
  rw [← h.1]
  exact ⟨rfl, h.2⟩
