def gV (V : Vt) : Prop := wfV V ∧ nfV V
theorem gV.up {V : Vt} {s : Nat} {T : Tt} (h : gV V) (hT : wfT T ∧ nfT T) : gV (va_up V s T) := by
  refine ⟨fun k hk => ?_, fun k hk => ?_⟩
  · by_cases e : k = s
    · rw [e, va_up_s]; exact hT.1
    · rw [va_up_n e]; exact h.1 k hk
  · by_cases e : k = s
    · rw [e, va_up_s]; exact hT.2
    · rw [va_up_n e]; exact h.2 k hk
theorem Kp.keep {N e : Nat → Nat} {z s : Nat} {V V' : Vt} {r : Int32} (h : gV V) (hk : Kp N e z V s r V') (hT : ¬ ovr 64 N e → wfT (N, e, z) ∧ nfT (N, e, z)) : gV V' := by
  rcases hk with ⟨-, -, e⟩ | ⟨ho, -, e⟩
  · rw [e]; exact h
  · rw [e]; exact h.up (hT ho)
theorem Kp.fn {N e : Nat → Nat} {z s : Nat} {V V' V2 : Vt} {r r2 : Int32} (h : Kp N e z V s r V') (h2 : Kp N e z V s r2 V2) : r = r2 ∧ V' = V2 := by
  rcases h with ⟨a1, a2, a3⟩ | ⟨a1, a2, a3⟩
  · rcases h2 with ⟨b1, b2, b3⟩ | ⟨b1, b2, b3⟩
    · exact ⟨a2.trans b2.symm, a3.trans b3.symm⟩
    · exact absurd a1 b1
  · rcases h2 with ⟨b1, b2, b3⟩ | ⟨b1, b2, b3⟩
    · exact absurd b1 a1
    · exact ⟨a2.trans b2.symm, a3.trans b3.symm⟩
theorem e0_ok : okE (fun _ => 0) := ⟨fun _ => (by decide : 0 < 100), fun _ _ => rfl⟩
theorem lin_wn {a b : Nat} (ha : a < 10007) (hb : b < 10007) (ho : ¬ ovr 64 (lin a b) (fun _ => 0)) : wfT (lin a b, fun _ => 0, 1) ∧ nfT (lin a b, fun _ => 0, 1) := by
  have hl := lin_ok (n := 64) ha hb (by decide)
  have h1 := nr_e0 hl
  have h2 := nrZ_1 64 (lin a b)
  have h := nr_wn (z := 1) hl e0_ok (by omega) (by omega) (by rw [h1.1, h1.2]; exact ho)
  rw [h1.1, h1.2, h2] at h
  exact h
theorem one_wn {e : Nat → Nat} {z : Nat} (hE : okE e) (hz0 : 0 < z) (hz : z < 10007) (ho : ¬ ovr 64 (lin 0 1) e) : wfT (lin 0 1, e, z) ∧ nfT (lin 0 1, e, z) := by
  have hl := lin_ok (n := 64) (a := 0) (b := 1) (by decide) (by decide) (by decide)
  obtain ⟨h1, h2, h3⟩ := nr_one e z
  have h := nr_wn (z := z) hl hE hz0 hz (by rw [h1, h2]; exact ho)
  rw [h1, h2, h3] at h
  exact h
theorem addN_ok (T U : Tt) : okP 64 (addN T U) := by
  unfold addN cmb
  exact ads_ok 64 _ _ _
theorem k_const {V V' : Vt} {s c r : Int32} (hg : gV V) (h : O_const V s c r V') : gV V' := by
  rcases h with ⟨-, -, e⟩ | ⟨k, x, hk, hx, -, -, h⟩
  · rw [e]; exact hg
  · exact h.keep hg (lin_wn (by omega) hx)
theorem k_lin {V V' : Vt} {s a b r : Int32} (hg : gV V) (h : O_lin V s a b r V') : gV V' := by
  rcases h with ⟨-, -, e⟩ | ⟨k, x, y, hk, hx, hy, -, -, -, h⟩
  · rw [e]; exact hg
  · exact h.keep hg (lin_wn hx hy)
theorem k_pow {V V' : Vt} {s a r : Int32} (hg : gV V) (h : O_pow V s a r V') : gV V' := by
  rcases h with ⟨-, -, e⟩ | ⟨k, x, hk, hx0, hx, -, -, h⟩
  · rw [e]; exact hg
  · exact h.keep hg (one_wn e0_ok hx0 hx)
theorem k_pole {V V' : Vt} {s a b r : Int32} (hg : gV V) (h : O_pole V s a b r V') : gV V' := by
  rcases h with ⟨-, -, e⟩ | ⟨k, x, y, hk, hx, hy1, hy3, -, -, -, h⟩
  · rw [e]; exact hg
  · exact h.keep hg (one_wn (e0_ok.up (by omega) (by omega)) (by omega) (by omega))
theorem k_add {V V' : Vt} {s a b r : Int32} (hg : gV V) (h : O_add V s a b r V') : gV V' := by
  rcases h with ⟨-, -, e⟩ | ⟨k, x, y, hk, hx, hy, -, -, -, h⟩
  · rw [e]; exact hg
  · have wx := hg.1 x hx
    have wy := hg.1 y hy
    rcases h with ⟨-, -, -, -, e⟩ | ⟨-, h⟩
    · rw [e]; exact hg
    · refine h.keep hg (nr_wn (addN_ok _ _) (mxE_ok wx.e wy.e) ?_ ?_)
      · split
        · exact wy.2.2.2.1
        · exact wx.2.2.2.1
      · split
        · exact wy.2.2.2.2
        · exact wx.2.2.2.2
theorem k_mul {V V' : Vt} {s a b r : Int32} (hg : gV V) (h : O_mul V s a b r V') : gV V' := by
  rcases h with ⟨-, -, e⟩ | ⟨k, x, y, hk, hx, hy, -, -, -, h⟩
  · rw [e]; exact hg
  · have wx := hg.1 x hx
    have wy := hg.1 y hy
    refine h.keep hg (nr_wn (prd_ok 64 32 _ _) ⟨fun i => ?_, fun i hi => ?_⟩ ?_ (Nat.mod_lt _ (by decide)))
    · have := wx.2.1 i
      have := wy.2.1 i
      show (V x).2.1 i + (V y).2.1 i < 100
      omega
    · show (V x).2.1 i + (V y).2.1 i = 0
      rw [wx.2.2.1 i (by omega), wy.2.2.1 i (by omega)]
    · refine Nat.pos_of_ne_zero (fun h0 => ?_)
      have h1 : fi ((V x).2.2 * (V y).2.2 % 10007) = 0 := by rw [h0]; rfl
      rw [fi_mod, fi_mul] at h1
      exact fp_mul_ne (fi_ne wx.2.2.2.1 wx.2.2.2.2) (fi_ne wy.2.2.2.1 wy.2.2.2.2) h1
theorem k_shift {V V' : Vt} {s a r : Int32} (hg : gV V) (h : O_shift V s a r V') : gV V' := by
  rcases h with ⟨-, -, e⟩ | ⟨k, x, hk, hx, -, -, h⟩
  · rw [e]; exact hg
  · have wx := hg.1 x hx
    obtain ⟨h1, h2, h3⟩ := nxt_nr wx (hg.2 x hx)
    have hn := nr_wn (N := nxt 64 (V x).2.2 (V x).1) (e := sh1 (V x).2.1) (nxt_ok 64 _ wx.1.1) (sh1_ok wx.e) wx.2.2.2.1 wx.2.2.2.2
    rw [h1, h2, h3] at hn
    exact h.keep hg hn
theorem difN_ok' (T : Tt) : okP 64 (difN T) := by
  unfold difN cmb
  exact ads_ok 64 _ _ _
theorem k_diff {V V' : Vt} {s a r : Int32} (hg : gV V) (h : O_diff V s a r V') : gV V' := by
  rcases h with ⟨-, -, e⟩ | ⟨k, x, hk, hx, -, -, h⟩
  · rw [e]; exact hg
  · have wx := hg.1 x hx
    exact h.keep hg (nr_wn (difN_ok' _) (difE_ok wx) wx.2.2.2.1 wx.2.2.2.2)
theorem spN_ok {T : Tt} (h : wfT T) : okP 64 (spN T.2.2 T.2.1 T.1) := by
  unfold spN gth
  refine gb_ok (wd_ok ?_ 8) 8
  unfold whl
  exact swh_ok h.1 h.2.2.2.1 h.2.2.2.2
theorem rem_cut (T : Tt) : cut 32 (remT T).1 = (remT T).1 := by
  unfold remT spR
  dsimp only
  exact cut_id (rem_in _ _).2.2
theorem rem_no (T : Tt) : ¬ ovr 64 (remT T).1 (remT T).2.1 := by
  unfold remT spR
  dsimp only
  exact (rem_in _ _).1
theorem k_tel {V V' : Vt} {d r a x : Int32} (hg : gV V) (h : O_tel V d r a x V') : gV V' := by
  rcases h with ⟨-, -, e⟩ | ⟨k, j, i, hk, hj, hi, -, -, -, -, h⟩
  · rw [e]; exact hg
  · rcases h with ⟨-, -, e⟩ | ⟨ho, -, e⟩
    · rw [e]; exact hg
    · have wi := hg.1 i hi
      rw [e, rem_cut]
      refine (hg.up ?_).up ?_
      · revert ho
        unfold telT
        dsimp only
        exact nr_wn (spN_ok wi) (gE_ok _) wi.2.2.2.1 wi.2.2.2.2
      · have hr := rem_no (V i)
        revert hr
        unfold remT spR
        dsimp only
        exact nr_wn (rmw_ok _ _) e30_ok wi.2.2.2.1 wi.2.2.2.2
