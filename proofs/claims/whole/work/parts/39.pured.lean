theorem rot_s (u : Nat → Nat) (back e b : Nat) : ∀ n, n < 100 → fi (rot u back e b (n + 1)) = (fi (u (3 * (b + 1) + e - 1)) + fi (rot u back e (b + 1) n)) * fi back := by
  intro n
  induction n with
  | zero =>
    intro _
    show fi ((0 + u (3 * (b + 1 + 0) + e - 1) * pw back (0 + 1)) % 10007) = (fi (u (3 * (b + 1) + e - 1)) + fi 0) * fi back
    rw [fi_mod, fi_add, fi_mul, pw_fi (by decide), px_s, px_0, fi_0, Nat.add_zero]
    grobner
  | succ n ih =>
    intro hn
    have h1 := ih (by omega)
    have h2 : fi (rot u back e b (n + 1 + 1)) = fi (rot u back e b (n + 1)) + fi (u (3 * (b + 1 + (n + 1)) + e - 1)) * px (fi back) (n + 1 + 1) := by
      show fi ((rot u back e b (n + 1) + u (3 * (b + 1 + (n + 1)) + e - 1) * pw back (n + 1 + 1)) % 10007) = _
      rw [fi_mod, fi_add, fi_mul, pw_fi (by omega)]
    have h3 : fi (rot u back e (b + 1) (n + 1)) = fi (rot u back e (b + 1) n) + fi (u (3 * (b + 1 + (n + 1)) + e - 1)) * px (fi back) (n + 1) := by
      show fi ((rot u back e (b + 1) n + u (3 * (b + 1 + 1 + n) + e - 1) * pw back (n + 1)) % 10007) = _
      rw [fi_mod, fi_add, fi_mul, pw_fi (by omega), show b + 1 + 1 + n = b + 1 + (n + 1) by omega]
    rw [h2, h3, h1, px_s (fi back) (n + 1)]
    grobner
theorem rot_ptr {u : Nat → Nat} {w : Nat → Nat → Nat} {back k : Nat} (h : ∀ q, q < 8 → u (3 * q + k - 1) = w q k) : ∀ d, d ≤ 7 → rot u back k (7 - d) d = ptr back w d k := by
  intro d
  induction d with
  | zero => intro _; rfl
  | succ d ih =>
    intro hd
    have h1 := ih (by omega)
    refine fi_inj (rot_lt _ _ _ _ _) (ptr_lt _ _ _ _) ?_
    rw [rot_s _ _ _ _ _ (by omega), show 7 - (d + 1) + 1 = 7 - d by omega, h1, h (7 - d) (by omega)]
    show _ = fi ((w (7 - d) k + ptr back w d k) % 10007 * back % 10007)
    rw [fi_mod, fi_mul, fi_mod, fi_add]
def tlf (e : Nat → Nat) (b : Nat) : Nat → Nat := fun i => if i < b then 0 else e i
theorem pp_tlf {e : Nat → Nat} {b : Nat} (hb : b < 8) (x : Fp) : pp (tlf e b) 8 x = px (x + fi b) (e b) * pp (lfb e b) 8 x := by
  rw [pp_out (e := tlf e b) hb x, show tlf e b b = e b by unfold tlf; rw [if_neg (by omega)]]
  congr 1
  refine pp_ext (fun i _ => ?_) x
  unfold va_up tlf lfb
  by_cases h : i = b
  · rw [if_pos h, if_pos (by omega)]
  · rw [if_neg h]
    by_cases h2 : i < b
    · rw [if_pos h2, if_pos (by omega)]
    · rw [if_neg h2, if_neg (by omega)]
theorem tlf_s (e : Nat → Nat) (b : Nat) : tlf e (b + 1) = lfb e b := by
  funext i
  unfold tlf lfb
  by_cases h : i ≤ b
  · rw [if_pos h, if_pos (by omega)]
  · rw [if_neg h, if_neg (by omega)]
theorem pv_dq32 {b : Nat} {f : Nat → Nat} (hb : b < 9) (h : okP 32 f) (x : Fp) : pv f 80 x = (x + fi b) * pv (dq 64 (rt b) f) 80 x + pv f 80 (-fi b) := by
  have h1 := pv_dq 64 (rt b) f (fun i hi => h.2 i (by omega)) x
  have hq := dq_32 (r := rt b) h
  rw [fi_rt (by omega)] at h1
  rw [pv_le (m := 80) (n := 64) (by omega) (fun i hi => h.2 i (by omega)), pv_le (m := 80) (n := 64) (by omega) (fun i hi => hq.2 i (by omega)), pv_le (m := 80) (n := 64) (by omega) (fun i hi => h.2 i (by omega)), h1]
  grobner
theorem qdv_ch {e f : Nat → Nat} {W : Fp → Fp} {b c : Nat} (hb : b < 8) (he : ∀ i, e i ≤ 3) (hf : okP 32 f) (hW : PF 200 W) (hc : c ≤ 90) {R : Fp → Fp} (hR : PF (e b + c) R) (h : ∀ x, pv f 80 x = px (x + fi b) (e b) * pp (lfb e b) 8 x * W x + R x) : ∀ k, k ≤ e b → ∃ R', PF (e b - k + c) R' ∧ ∀ x, pv (rdq (rt b) k f) 80 x = px (x + fi b) (e b - k) * pp (lfb e b) 8 x * W x + R' x := by
  intro k
  induction k with
  | zero => intro _; exact ⟨R, hR, h⟩
  | succ k ih =>
    intro hk
    obtain ⟨R1, hR1, h1⟩ := ih (by omega)
    have heb := he b
    have hs := sE_le (lfb_le b he) 8
    have h2 := fun x => pv_dq32 (b := b) (by omega) (rdq_32 (r := rt b) hf k) x
    rw [show e b - k = (e b - (k + 1)) + 1 by omega] at hR1 h1
    exact ch_step (b := b) (j := e b - (k + 1)) (c := c) (by omega) (((PF.evf (fun j => fi (rdq (rt b) (k + 1) f j)) 80).mono (m := 200) (by omega)).congr (fun _ => rfl)) ((PF.ppf (lfb e b) 8).mono (by omega)) hW (by omega) (by omega) hR1 h1 h2
theorem qdv_st {e N : Nat → Nat} {W : Fp → Fp} (he : ∀ i, e i ≤ 3) (hN : okP 32 N) (hW : PF 200 W) {R : Fp → Fp} (hR : PF (sE e 8) R) (h : ∀ x, pv N 80 x = pp e 8 x * W x + R x) : ∀ b, b ≤ 8 → ∃ R', PF (sE e 8 - sE e b) R' ∧ ∀ x, pv (qdv e b N) 80 x = pp (tlf e b) 8 x * W x + R' x := by
  have h8 := sE_le he 8
  intro b
  induction b with
  | zero =>
    intro _
    refine ⟨R, hR, fun x => ?_⟩
    show pv N 80 x = _
    rw [h x, pp_ext (e := tlf e 0) (f := e) (fun i _ => by unfold tlf; rw [if_neg (by omega)]) x]
  | succ b ih =>
    intro hb
    obtain ⟨R1, hR1, h1⟩ := ih (by omega)
    have k1 := sE_lfb e b 8 (by omega)
    have k2 : sE e (b + 1) = sE e b + e b := rfl
    obtain ⟨R2, hR2, h2⟩ := qdv_ch (b := b) (c := sE e 8 - sE e (b + 1)) (by omega) he (qdv_32 hN b) hW (by omega) (hR1.mono (by omega)) (fun x => by rw [h1 x, pp_tlf (by omega) x]) (e b) (by omega)
    refine ⟨R2, hR2.mono (by omega), fun x => ?_⟩
    show pv (rdq (rt b) (e b) (qdv e b N)) 80 x = _
    rw [h2 x, tlf_s, Nat.sub_self, px_0]
    grobner
theorem qdv_wall {e N : Nat → Nat} (he : ∀ i, e i ≤ 3) (hN : okP 32 N) : (wall e 8 N).1 = qdv e 8 N := by
  have hok := (wall_ok (e := e) (hN.mono (m := 80) (by omega)) 8).1
  have hst : Stg e (fun b x => pv (wall e b N).1 80 x) (fun b i => fi ((wall e (b + 1) N).2 (3 * b + (e b - 1 - i)))) := by
    intro b' hb' x
    exact wch_st hb' he x (e b') (wall_ok (hN.mono (by omega)) b').1
  obtain ⟨R, hR, h⟩ := stg_b hst 8 (by omega)
  obtain ⟨R', hR', h'⟩ := qdv_st (W := fun x => pv (wall e 8 N).1 80 x) he hN (((PF.evf (fun j => fi ((wall e 8 N).1 j)) 80).mono (m := 200) (by omega)).congr (fun _ => rfl)) hR h 8 (by omega)
  refine pv_eq (n := 80) (by omega) hok ((qdv_32 hN 8).mono (by omega)) (fun x _ => ?_)
  rw [h' x]
  have h0 : R' x = 0 := by
    rw [Nat.sub_self] at hR'
    obtain ⟨g, hg⟩ := hR'
    rw [hg]
    rfl
  have h1 : pp (tlf e 8) 8 x = 1 := by
    have := pp_lfb e 7 x 8 (by omega)
    rw [tlf_s e 7]
    exact this
  rw [h0, h1]
  grobner
