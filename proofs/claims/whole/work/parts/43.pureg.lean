theorem wd_wn {d f : Nat → Nat} {n : Nat} (hd : ∀ i, d i ≤ 3) (h : okP n f) : ∀ k, n + 3 * k ≤ 64 → wd 80 d k f = wd 64 d k f ∧ okP (n + 3 * k) (wd 64 d k f) := by
  intro k
  induction k with
  | zero => intro _; exact ⟨rfl, h⟩
  | succ k ih =>
    intro hk
    have h1 := ih (by omega)
    have hdk := hd k
    have h2 := mtN_w (b := k) (d k) h1.2 (by omega)
    show mtN 80 k (d k) (wd 80 d k f) = mtN 64 k (d k) (wd 64 d k f) ∧ okP (n + 3 * (k + 1)) (mtN 64 k (d k) (wd 64 d k f))
    rw [h1.1]
    exact ⟨h2.1, h2.2.mono (by omega)⟩
theorem gat_eq {c : Nat} {R d : Nat → Nat} (hR : okP 64 R) (hd : ∀ i, d i ≤ 3) (hc : c < 10007) : ads 80 c R (wd 80 d 8 (lin 0 1)) = ads 64 1 R (wd 64 d 8 (lin 0 c)) := by
  have h1 := wd_wn hd one_ok 8 (by omega)
  have h2 := wd_wn hd (lin0_ok hc) 8 (by omega)
  have k1 := fun x => (wd_pv hd one_ok x 8 (by omega)).1
  have k2 := fun x => (wd_pv hd (lin0_ok hc) x 8 (by omega)).1
  have o1 : okP 64 (wd 80 d 8 (lin 0 1)) := by rw [h1.1]; exact h1.2.mono (by omega)
  have o2 : okP 64 (wd 64 d 8 (lin 0 c)) := h2.2.mono (by omega)
  rw [ads_w hR o1]
  refine pv_eq (n := 80) (by omega) ((ads_ok 64 _ _ _).mono (by omega)) ((ads_ok 64 _ _ _).mono (by omega)) (fun x _ => ?_)
  rw [← ads_w hR o1, ← ads_w hR o2, pv_ads, pv_ads, ← h2.1, k1 x, k2 x, pv_one, pv_lin0 hc, fi_1]
  grobner
theorem up_le3 {e : Nat → Nat} {b v : Nat} (he : ∀ i, e i ≤ 3) (hv : v ≤ 3) : ∀ i, va_up e b v i ≤ 3 := by
  intro i
  unfold va_up
  split
  · exact hv
  · exact he i
theorem dq_m {m r : Nat} {f : Nat → Nat} (h : okP m f) : okP m (dq 64 r f) := ⟨(dq_ok 64 r f).1, fun i hi => hn_0 (fun j hj => h.2 j (by omega))⟩
theorem strip_m {m r : Nat} : ∀ (k : Nat) {N : Nat → Nat}, okP m N → okP m (strip 64 r k N).1 := by
  intro k
  induction k with
  | zero => intro N h; exact h
  | succ k ih =>
    intro N h
    unfold strip
    split
    · exact ih (dq_m h)
    · exact h
theorem nrl_m {q : Nat} : ∀ (m b : Nat) {N e : Nat → Nat}, okP q N → okP q (nrl 64 m b N e).1 := by
  intro m
  induction m with
  | zero => intro b N e h; exact h
  | succ m ih => intro b N e h; exact ih (b + 1) (strip_m (e b) h)
theorem nrN_m {q : Nat} {N e : Nat → Nat} (h : okP q N) : okP q (nrN 64 N e) := by
  unfold nrN
  split
  · exact ⟨fun _ => (by decide : 0 < 10007), fun _ _ => rfl⟩
  · exact nrl_m 9 0 h
theorem strip_le {n r : Nat} : ∀ (k : Nat) (N : Nat → Nat), (strip n r k N).2 ≤ k := by
  intro k
  induction k with
  | zero => intro N; exact Nat.le_refl _
  | succ k ih =>
    intro N
    unfold strip
    split
    · exact Nat.le_succ_of_le (ih _)
    · exact Nat.le_refl _
theorem nrl_le {n : Nat} : ∀ (m b : Nat) (N e : Nat → Nat) (i : Nat), (nrl n m b N e).2 i ≤ e i := by
  intro m
  induction m with
  | zero => intro b N e i; exact Nat.le_refl _
  | succ m ih =>
    intro b N e i
    have h1 := ih (b + 1) (strip n (rt b) (e b) N).1 (va_up e b (strip n (rt b) (e b) N).2) i
    have h2 := strip_le (n := n) (r := rt b) (e b) N
    have h3 : va_up e b (strip n (rt b) (e b) N).2 i ≤ e i := by
      unfold va_up
      split
      · next h => rw [h]; exact h2
      · exact Nat.le_refl _
    exact Nat.le_trans h1 h3
theorem nrE_le (n : Nat) (N e : Nat → Nat) (i : Nat) : nrE n N e i ≤ e i := by
  unfold nrE
  split
  · exact Nat.zero_le _
  · exact nrl_le 9 0 N e i
theorem rmw_3 (zi : Nat) (w : Nat → Nat → Nat) : okP 3 (rmw zi w) := ⟨(rmw_ok zi w).1, fun i hi => by unfold rmw; rw [if_neg (by omega)]⟩
theorem tp_m {N : Nat → Nat} {q : Nat} (h : okP q N) (hq : q ≤ 64) : tp N 64 ≤ q := by
  rw [show 64 = q + (64 - q) by omega, tp_more _ h.2]
  exact tp_le _ _
theorem rem_in (zi : Nat) (w : Nat → Nat → Nat) : ¬ ovr 64 (nrN 64 (rmw zi w) e30) (nrE 64 (rmw zi w) e30) ∧ okP 32 (nrN 64 (rmw zi w) e30) := by
  have h1 := nrN_m (e := e30) (rmw_3 zi w)
  refine ⟨?_, h1.mono (by omega)⟩
  have h2 := tp_m h1 (by omega)
  have h3 := nrE_le 64 (rmw zi w) e30
  have h4 : ∀ i, e30 i ≤ 3 := fun i => by unfold e30; split <;> omega
  have h5 : e30 8 = 0 := rfl
  have h6 := h3 8
  intro h
  rcases h with ⟨b, hb, hb3⟩ | h | h
  · have := h3 b
    have := h4 b
    omega
  · omega
  · omega
theorem dq_nz {r : Nat} {N : Nat → Nat} (h : okP 64 N) (h0 : hn N r 64 0 = 0) (hd : dq 64 r N = fun _ => 0) : N = fun _ => 0 := by
  refine pv_eq (n := 64) (by omega) h ⟨fun _ => (by decide : 0 < 10007), fun _ _ => rfl⟩ (fun x _ => ?_)
  have h1 := pv_dq 64 r N h.2 x
  have hz : ∀ y, pv (fun _ => 0) 64 y = 0 := fun y => ev_zero (fun _ _ => rfl) y
  rw [hd, hz, ← hn_pv, h0, fi_0] at h1
  rw [h1, hz]
  grobner
theorem dq_rt {r s : Nat} {N : Nat → Nat} (h : okP 64 N) (h0 : hn N r 64 0 = 0) (hs : hn N s 64 0 ≠ 0) : hn (dq 64 r N) s 64 0 ≠ 0 := by
  intro h2
  have h1 := pv_dq 64 r N h.2 (fi s)
  rw [← hn_pv, ← hn_pv, ← hn_pv, h0, h2, fi_0] at h1
  exact hs (fi_inj (hn_lt _ _ _ _) (by omega) (by rw [h1, fi_0]; grobner))
theorem strip_nz {r : Nat} : ∀ (k : Nat) {N : Nat → Nat}, okP 64 N → N ≠ (fun _ => 0) → (strip 64 r k N).1 ≠ (fun _ => 0) := by
  intro k
  induction k with
  | zero => intro N _ h; exact h
  | succ k ih =>
    intro N hN h
    unfold strip
    split
    · next h0 => exact ih (dq_ok 64 r N) (fun hd => h (dq_nz hN h0 hd))
    · exact h
theorem strip_rt {r : Nat} : ∀ (k : Nat) {N : Nat → Nat}, okP 64 N → (0 < (strip 64 r k N).2 → hn (strip 64 r k N).1 r 64 0 ≠ 0) ∧ ∀ s, hn N s 64 0 ≠ 0 → hn (strip 64 r k N).1 s 64 0 ≠ 0 := by
  intro k
  induction k with
  | zero => intro N _; exact ⟨fun h => absurd h (Nat.lt_irrefl 0), fun s h => h⟩
  | succ k ih =>
    intro N hN
    unfold strip
    by_cases h0 : hn N r 64 0 = 0
    · rw [if_pos h0]
      obtain ⟨a1, a2⟩ := ih (dq_ok 64 r N)
      exact ⟨a1, fun s hs => a2 s (dq_rt hN h0 hs)⟩
    · rw [if_neg h0]
      exact ⟨fun _ => h0, fun s h => h⟩
theorem nrl_nz : ∀ (m b : Nat) {N e : Nat → Nat}, okP 64 N → N ≠ (fun _ => 0) → (nrl 64 m b N e).1 ≠ (fun _ => 0) := by
  intro m
  induction m with
  | zero => intro b N e _ h; exact h
  | succ m ih => intro b N e hN h; exact ih (b + 1) (strip_ok (e b) hN).1 (strip_nz (e b) hN h)
theorem nrl_nf : ∀ (m b : Nat) {N e : Nat → Nat}, okP 64 N → (∀ i, i < b → 0 < e i → hn N (rt i) 64 0 ≠ 0) → ∀ i, i < b + m → 0 < (nrl 64 m b N e).2 i → hn (nrl 64 m b N e).1 (rt i) 64 0 ≠ 0 := by
  intro m
  induction m with
  | zero => intro b N e _ h i hi; exact h i (by omega)
  | succ m ih =>
    intro b N e hN h i hi
    obtain ⟨a1, a2⟩ := strip_rt (r := rt b) (e b) hN
    refine ih (b + 1) (strip_ok (e b) hN).1 (fun i hi h0 => ?_) i (by omega)
    by_cases hb : i = b
    · rw [hb] at h0 ⊢
      rw [va_up_s] at h0
      exact a1 h0
    · rw [va_up_n hb] at h0
      exact a2 _ (h i (by omega) h0)
theorem nr_nf {N e : Nat → Nat} (z : Nat) (hN : okP 64 N) : (tp (nrN 64 N e) 64 = 0 → nrE 64 N e = (fun _ => 0) ∧ nrZ 64 N z = 1) ∧ ∀ b, b < 9 → 0 < nrE 64 N e b → hn (nrN 64 N e) (rt b) 64 0 ≠ 0 := by
  unfold nrN nrE nrZ
  by_cases h0 : tp N 64 = 0
  · rw [if_pos h0, if_pos h0, if_pos h0]
    exact ⟨fun _ => ⟨rfl, rfl⟩, fun b _ h => absurd h (Nat.lt_irrefl 0)⟩
  · rw [if_neg h0, if_neg h0, if_neg h0]
    refine ⟨fun h => ?_, fun b hb => nrl_nf 9 0 hN (fun i hi => by omega) b (by omega)⟩
    exfalso
    have hne : N ≠ (fun _ => 0) := by
      intro hz
      refine h0 (tp_eq (by omega) (fun i _ _ => by rw [hz]) (fun h => by omega))
    exact nrl_nz 9 0 (e := e) hN hne (tp_nul (nrl_m 9 0 hN) h)
theorem wf_ovr {N e : Nat → Nat} {z : Nat} (hN : okP 64 N) (hE : okE e) (hz0 : 0 < z) (hz : z < 10007) (ho : ¬ ovr 64 N e) : wfT (N, e, z) := by
  have h3 : ∀ b, b < 8 → e b ≤ 3 := fun b hb => by
    refine Nat.le_of_not_lt (fun h => ho (Or.inl ⟨b, hb, h⟩))
  have h8 : e 8 = 0 := by
    refine Nat.eq_zero_of_not_pos (fun h => ho (Or.inr (Or.inr h)))
  have ht : tp N 64 ≤ 32 := Nat.le_of_not_lt (fun h => ho (Or.inr (Or.inl h)))
  have hz8 : ∀ i, 8 ≤ i → e i = 0 := by
    intro i hi
    by_cases h : i = 8
    · rw [h]; exact h8
    · exact hE.2 i (by omega)
  refine ⟨⟨hN.1, fun i hi => hN.tz (by omega)⟩, fun i => ?_, hz8, hz0, hz⟩
  show e i ≤ 3
  by_cases h : i < 8
  · exact h3 i h
  · rw [hz8 i (by omega)]; omega
theorem nf_of {N e : Nat → Nat} {z : Nat} (hN : okP 32 N) (h : (tp N 64 = 0 → e = (fun _ => 0) ∧ z = 1) ∧ ∀ b, b < 9 → 0 < e b → hn N (rt b) 64 0 ≠ 0) : nfT (N, e, z) := by
  refine ⟨fun h0 => h.1 ?_, fun b hb h0 => ?_⟩
  · rw [show (64 : Nat) = 32 + 32 by rfl, tp_more 32 hN.2]
    exact h0
  · have := h.2 b (by omega) h0
    rw [hn_le (k := 64) (m := 32) (by omega) (fun j hj => hN.2 j (by omega))] at this
    exact this
theorem nr_wn {N e : Nat → Nat} {z : Nat} (hN : okP 64 N) (hE : okE e) (hz0 : 0 < z) (hz : z < 10007) (ho : ¬ ovr 64 (nrN 64 N e) (nrE 64 N e)) : wfT (nrN 64 N e, nrE 64 N e, nrZ 64 N z) ∧ nfT (nrN 64 N e, nrE 64 N e, nrZ 64 N z) := by
  have hk := nrN_ok hN hE
  have h1 : wfT (nrN 64 N e, nrE 64 N e, nrZ 64 N z) := wf_ovr hk.1 hk.2 (by unfold nrZ; split <;> omega) (by unfold nrZ; split <;> omega) ho
  exact ⟨h1, nf_of h1.1 (nr_nf z hN)⟩
