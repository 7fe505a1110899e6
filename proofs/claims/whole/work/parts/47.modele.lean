theorem rst_upj (g h : Nat → Nat) {j : Nat} (hj : j < 80) (v : Nat) : va_up (rst g 0 h) j v = rst g 0 (va_up h j v) := by
  funext y
  by_cases e : y = j
  · rw [e, va_up_s]
    have := rst_at (g := g) (p := 0) (i := j) (h := va_up h j v) hj
    rw [Nat.zero_add, va_up_s] at this
    exact this.symm
  · rw [va_up_n e]
    unfold rst prt
    by_cases e2 : 0 ≤ y ∧ y < 0 + 80
    · rw [if_pos e2, if_pos e2, va_up_n (by omega)]
    · rw [if_neg e2, if_neg e2]
section MF
variable {l : Launch} {D : va_G} {cI cT : ClassId} {G : Gm} {S : Sg}
set_option maxHeartbeats 8000000 in
set_option maxRecDepth 100000 in
theorem m_telescope {m : Nat} {d p a : Int32} {V : Vt} (hm : isM G m) (hV : MI S m V) (hw : wfV V) : CT (mkE l D cI cT) G y_Model_telescope b_Model_telescope 7 (some .int) 6 [.ref m, .int d, .int p, .int a] S (Pi (fun S' x => ∃ V', O_tel V d p a x V' ∧ MI S' m V' ∧ exM m S S')) := by
  have hm0 := hm
  obtain ⟨hM, hco, hex, hra, hpo, hbe, hwe, hro, hle, hva⟩ := hm
  refine mk_i (by decide) (eok l D cI cT) (by simp [Value.category]) (Nat.le_of_ble_eq_true rfl) (fun J X hR => ?_)
  show J S 0 [some (.ref m), some (.int d), some (.int p), some (.int a), none, none, none] []
  have hbad : ¬ (sl d ∧ sl p ∧ sl a ∧ d ≠ p) → J S 26 [some (.ref m), some (.int d), some (.int p), some (.int a), none, none, none] [] := by
    intro h
    refine r_bipush X (x := (-9)) d_Model_telescope_26 (by decide) ?_
    exact hR _ _ _ _ d_Model_telescope_28 rfl ⟨_, rfl, V, Or.inl ⟨h, rfl, rfl⟩, hV, Ex.rf _ _⟩
  refine r_iload_n X d_Model_telescope_0 (by rfl) ?_
  refine r_cSi X ls_Model_77 m_slot (by decide) rfl (Nat.le_of_ble_eq_true rfl) d_Model_telescope_1 rfl (fun Sx rx hx => ?_)
  obtain ⟨hxs, hx⟩ := hx
  replace hxs := hxs.symm
  subst hxs
  rcases hx with ⟨rfl, g1⟩ | ⟨rfl, g1⟩
  rotate_left
  · refine r_if_eqN X d_Model_telescope_4 (tgt := 26) (by decide) (by omega) (fun _ => ?_) (fun hc => absurd rfl hc)
    exact hbad (fun h => g1 h.1)
  refine r_if_eqN X d_Model_telescope_4 (tgt := 26) (by decide) (by omega) (fun hc => absurd hc (by decide)) (fun _ => ?_)
  refine r_iload_n X d_Model_telescope_7 (by rfl) ?_
  refine r_cSi X ls_Model_77 m_slot (by decide) rfl (Nat.le_of_ble_eq_true rfl) d_Model_telescope_8 rfl (fun Sx rx hx => ?_)
  obtain ⟨hxs, hx⟩ := hx
  replace hxs := hxs.symm
  subst hxs
  rcases hx with ⟨rfl, g2⟩ | ⟨rfl, g2⟩
  rotate_left
  · refine r_if_eqN X d_Model_telescope_11 (tgt := 26) (by decide) (by omega) (fun _ => ?_) (fun hc => absurd rfl hc)
    exact hbad (fun h => g2 h.2.1)
  refine r_if_eqN X d_Model_telescope_11 (tgt := 26) (by decide) (by omega) (fun hc => absurd hc (by decide)) (fun _ => ?_)
  refine r_iload_n X d_Model_telescope_14 (by rfl) ?_
  refine r_cSi X ls_Model_77 m_slot (by decide) rfl (Nat.le_of_ble_eq_true rfl) d_Model_telescope_15 rfl (fun Sx rx hx => ?_)
  obtain ⟨hxs, hx⟩ := hx
  replace hxs := hxs.symm
  subst hxs
  rcases hx with ⟨rfl, g3⟩ | ⟨rfl, g3⟩
  rotate_left
  · refine r_if_eqN X d_Model_telescope_18 (tgt := 26) (by decide) (by omega) (fun _ => ?_) (fun hc => absurd rfl hc)
    exact hbad (fun h => g3 h.2.2.1)
  refine r_if_eqN X d_Model_telescope_18 (tgt := 26) (by decide) (by omega) (fun hc => absurd hc (by decide)) (fun _ => ?_)
  refine r_iload_n X d_Model_telescope_21 (by rfl) ?_
  refine r_iload_n X d_Model_telescope_22 (by rfl) ?_
  refine r_icmp_ne X d_Model_telescope_23 (tgt := 29) (by decide) (fun g4 => ?_) (fun g4 => hbad (fun h => h.2.2.2 g4))
  obtain ⟨k, hk, rfl⟩ := g1
  obtain ⟨j, hj, rfl⟩ := g2
  obtain ⟨i, hi, rfl⟩ := g3
  have hkj : k ≠ j := fun z => g4 (by rw [z])
  clear hbad
  have wi := hw i hi
  have ri := hV.1 i hi
  have r3 : S.1 (m + 3) i = (V i).2.2 := ri.2.2
  have hz7 : (V i).2.2 < 10007 := wi.2.2.2.2
  have hok := wall_ok (e := (V i).2.1) (wi.1.mono (m := 80) (by omega)) 8
  have hqw := qdv_wall wi.2.1 wi.1
  have hwg : ∀ b k, b < 8 → 1 ≤ k → k ≤ 3 → (wall (V i).2.1 8 (V i).1).2 (3 * b + k - 1) = wgc (V i).2.1 (V i).1 b k := fun b k h1 h2 h3 => wgc_eq h1 h2 h3 wi.2.1 wi.1
  have hxe := whl_eq (e := (V i).2.1) wi.2.2.2.1 wi.2.2.2.2 wi.1
  have hrot : ∀ b k, b < 8 → 1 ≤ k → k ≤ 3 → rot (wall (V i).2.1 8 (V i).1).2 (iv (V i).2.2) k b (7 - b) = ptr (iv (V i).2.2) (wgc (V i).2.1 (V i).1) (7 - b) k := by
    intro b k h1 h2 h3
    have h := rot_ptr (u := (wall (V i).2.1 8 (V i).1).2) (w := wgc (V i).2.1 (V i).1) (back := iv (V i).2.2) (k := k) (fun q hq => hwg q k hq h2 h3) (7 - b) (by omega)
    rw [show 7 - (7 - b) = b by omega] at h
    exact h
  have hP : ∀ b k, b < 8 → 1 ≤ k → k ≤ 3 → rot (wall (V i).2.1 8 (V i).1).2 (iv (V i).2.2) k b (7 - b) = spP (V i).2.2 (V i).2.1 (V i).1 (b * 3 + k - 1) := by
    intro b k h1 h2 h3
    unfold spP
    rw [pfn_at h1 h2 h3]
    exact hrot b k h1 h2 h3
  have hP7 : ∀ q, spP (V i).2.2 (V i).2.1 (V i).1 q < 10007 := fun q => by
    unfold spP
    exact (pfn_ok _ _).1 q
  have hsN := spN_ok wi
  have htel : (nrN 64 (spN (V i).2.2 (V i).2.1 (V i).1) (gE (spP (V i).2.2 (V i).2.1 (V i).1)), nrE 64 (spN (V i).2.2 (V i).2.1 (V i).1) (gE (spP (V i).2.2 (V i).2.1 (V i).1)), nrZ 64 (spN (V i).2.2 (V i).2.1 (V i).1) (V i).2.2) = telT (V i) := by unfold telT; rfl
  have hrem : (nrN 64 (spR (V i).2.2 (V i).2.1 (V i).1) e30, nrE 64 (spR (V i).2.2 (V i).2.1 (V i).1) e30, nrZ 64 (spR (V i).2.2 (V i).2.1 (V i).1) (V i).2.2) = remT (V i) := by unfold remT; rfl
  have hrw : ∀ q, q < 3 → spR (V i).2.2 (V i).2.1 (V i).1 (3 - (q + 1)) = ((wall (V i).2.1 8 (V i).1).2 q + rot (wall (V i).2.1 8 (V i).1).2 (iv (V i).2.2) (q + 1) 0 7) % 10007 := by
    intro q hq
    have h1 := hwg 0 (q + 1) (by omega) (by omega) (by omega)
    have h2 := hrot 0 (q + 1) (by omega) (by omega) (by omega)
    rw [show 3 * 0 + (q + 1) - 1 = q by omega] at h1
    rw [show 7 - 0 = 7 by rfl] at h2
    unfold spR rmw
    rw [if_pos (by omega), show 3 - (3 - (q + 1)) = q + 1 by omega, h1, h2]
  have hr3 : ∀ q, 3 ≤ q → spR (V i).2.2 (V i).2.1 (V i).1 q = 0 := by
    intro q hq
    unfold spR rmw
    rw [if_neg (by omega)]
  have hsR : okP 64 (spR (V i).2.2 (V i).2.1 (V i).1) := by
    unfold spR
    exact rmw_ok _ _
  have hgt : gth (spP (V i).2.2 (V i).2.1 (V i).1) (whl (V i).2.2 (V i).2.1 (V i).1) = spN (V i).2.2 (V i).2.1 (V i).1 := by unfold spN; rfl
  have hrc := rem_cut (V i)
  have hrn := rem_no (V i)
  have hxX := hxe.1
  have hx33 := hxe.2
  rw [← hqw] at hxX
  clear hxe hwg
  obtain ⟨u, hu⟩ : ∃ u, (wall (V i).2.1 8 (V i).1).2 = u := ⟨_, rfl⟩
  obtain ⟨W, hW⟩ : ∃ W, (wall (V i).2.1 8 (V i).1).1 = W := ⟨_, rfl⟩
  obtain ⟨T, hT⟩ : ∃ T, telT (V i) = T := ⟨_, rfl⟩
  obtain ⟨R, hRm⟩ : ∃ R, remT (V i) = R := ⟨_, rfl⟩
  obtain ⟨N1, hN1⟩ : ∃ N1, spN (V i).2.2 (V i).2.1 (V i).1 = N1 := ⟨_, rfl⟩
  obtain ⟨R1, hR1⟩ : ∃ R1, spR (V i).2.2 (V i).2.1 (V i).1 = R1 := ⟨_, rfl⟩
  obtain ⟨P, hPe⟩ : ∃ P, spP (V i).2.2 (V i).2.1 (V i).1 = P := ⟨_, rfl⟩
  obtain ⟨Xw, hXe⟩ : ∃ Xw, whl (V i).2.2 (V i).2.1 (V i).1 = Xw := ⟨_, rfl⟩
  rw [hu] at hok hP hrw hrot
  rw [hW] at hok hxX
  rw [hPe] at hP htel hgt
  simp only [hPe] at hP7
  rw [hXe] at hxX hx33 hgt
  rw [hN1] at hsN htel hgt
  rw [hR1] at hrem hrw hsR
  simp only [hR1] at hr3
  rw [hT] at htel
  rw [hRm] at hrem hrc hrn
  obtain ⟨z, hz⟩ : ∃ z, (V i).2.2 = z := ⟨_, rfl⟩
  have hO : ∀ x V', ((ovr 64 T.1 T.2.1 ∧ x = -7 ∧ V' = V) ∨ (¬ ovr 64 T.1 T.2.1 ∧ ((x = nI 1 ∧ tp R.1 64 = 0) ∨ (x = nI 0 ∧ 0 < tp R.1 64)) ∧ V' = va_up (va_up V k T) j (cut 32 R.1, (R.2.1, R.2.2)))) → O_tel V (nI k) (nI j) (nI i) x V' := by
    intro x V' h
    rw [← hT, ← hRm] at h
    exact Or.inr ⟨k, j, i, hk, hj, hi, hkj, rfl, rfl, rfl, h⟩
  rw [hz] at r3 hz7 hP hrw hrot hxX htel hrem
  refine r_aload_n X d_Model_telescope_29 (by rfl) ?_
  refine r_get X lf_Model_16 d_Model_telescope_30 (by assumption) (by rfl) ?_
  refine r_iload_n X d_Model_telescope_33 (by rfl) ?_
  refine r_iald X d_Model_telescope_34 (by assumption) (by omega) (by omega) ?_
  rw [r3]
  refine r_istore X d_Model_telescope_35 (by decide) ?_
  refine r_aload_n X d_Model_telescope_37 (by rfl) ?_
  refine r_iload_n X d_Model_telescope_38 (by rfl) ?_
  refine r_cVv X lv_Model_121 (m_weigh (s := i) hm0 hi hV hw) (by assumption) (by decide) rfl (Nat.le_of_ble_eq_true rfl) d_Model_telescope_39 rfl (fun S1 h1 => ?_)
  obtain ⟨hV1, hw1, h16, hx1⟩ := h1
  rw [hW] at hw1
  rw [hu] at h16
  clear hu hW hT hRm hN1 hR1 hPe hXe hqw wi ri hz hrot
  refine r_aload_n X d_Model_telescope_42 (by rfl) ?_
  refine r_iload X d_Model_telescope_43 (by rfl) ?_
  refine r_cVv X lv_Model_124 (m_total (z := z) (W := W) (u := u) (P := P) (Xw := Xw) hm0 hz7 hV1.2 hw1 h16 hok.2 hP7 hP hxX hx33) (by assumption) (by decide) rfl (Nat.le_of_ble_eq_true rfl) d_Model_telescope_45 rfl (fun S2 h2 => ?_)
  obtain ⟨q1, q2, q3, q4, hx2⟩ := h2
  rw [hgt] at q1
  have hV2 : RepM S2 m V := hV1.1.ex hx2 (by omega) (by omega) (by omega)
  have u2 : S2.1 (m + 6) = u := by rw [(hx2 (m + 6) (by omega)).1]; exact h16
  clear hP hxX
  refine r_aload_n X d_Model_telescope_48 (by rfl) ?_
  refine r_iload_n X d_Model_telescope_49 (by rfl) ?_
  refine r_cVi X lv_Model_84 (m_finish (s := k) (z := z) (f := N1) (e := gE P) hm0 hk hV2 q2 q1 hsN (gE_ok P) q3 q4) (by assumption) (by decide) rfl (Nat.le_of_ble_eq_true rfl) d_Model_telescope_50 rfl (fun S3 r h3 => ?_)
  obtain ⟨V1, hK, hV3, hg3, -, hx3⟩ := h3
  have ht1 : nrN 64 N1 (gE P) = T.1 := by rw [← htel]
  have ht2 : nrE 64 N1 (gE P) = T.2.1 := by rw [← htel]
  have ht3 : nrZ 64 N1 z = T.2.2 := by rw [← htel]
  rw [ht1, ht2, ht3] at hK
  clear ht1 ht2 ht3 htel
  have u3 : S3.1 (m + 6) = u := by rw [(hx3 (m + 6) (by omega)).1]; exact u2
  have x3 : exM m S S3 := ((hx1.mono (fun a h => by omega)).trans (hx2.mono (fun a h => by omega))).trans (hx3.mono (fun a h => by omega))
  clear u2 hx1 hx2 hx3 q1 q2 q3 q4 hgt hw1 h16
  rcases hK with ⟨ho, rfl, hVe⟩ | ⟨ho, rfl, hVe⟩
  · refine r_if_eq X d_Model_telescope_53 (tgt := 59) (by decide) (fun hc => absurd hc (by decide)) (fun _ => ?_)
    refine r_bipush X (x := (-7)) d_Model_telescope_56 (by decide) ?_
    refine hR _ _ _ _ d_Model_telescope_58 rfl ⟨_, rfl, V, hO _ _ (Or.inl ⟨ho, rfl, rfl⟩), ⟨?_, hg3⟩, x3⟩
    rw [← hVe]
    exact hV3
  · refine r_if_eqN X d_Model_telescope_53 (tgt := 59) (by decide) (by omega) (fun hc => ?_) (fun hc => ?_)
    rotate_left
    · exact absurd rfl hc
    obtain ⟨back, hbF, hb7⟩ : ∃ back, (fun _ : Unit => iv z) = (fun _ => back) ∧ back < 10007 := ⟨_, rfl, iv_lt z⟩
    rw [show iv z = back from congrFun hbF ()] at hrw
    refine r_iconst X (x := (nI 1)) d_Model_telescope_59 (by decide) ?_
    refine r_iload X d_Model_telescope_60 (by rfl) ?_
    refine r_cSi X ls_Model_109 (m_quotient (x := 1) (y := z) (by omega) hz7) (by decide) rfl (Nat.le_of_ble_eq_true rfl) d_Model_telescope_62 rfl (fun S4 r h4 => ?_)
    obtain ⟨hxs, rfl⟩ := h4
    replace hxs := hxs.symm
    subst hxs
    rw [Nat.one_mul, show iv z = back from congrFun hbF (), Nat.mod_eq_of_lt hb7]
    refine r_istore X d_Model_telescope_65 (by decide) ?_
    refine r_aload_n X d_Model_telescope_67 (by rfl) ?_
    refine r_iload X d_Model_telescope_68 (by rfl) ?_
    refine r_cVv X lv_Model_56 (m_fresh (z := z) hm0) (by assumption) (by decide) rfl (Nat.le_of_ble_eq_true rfl) d_Model_telescope_70 rfl (fun S4 h4 => ?_)
    obtain ⟨h44, h45, h4z, hx4⟩ := h4
    refine r_aload_n X d_Model_telescope_73 (by rfl) ?_
    refine r_get X lf_Model_22 d_Model_telescope_74 (by assumption) (by rfl) ?_
    refine r_iconst X (x := (nI 0)) d_Model_telescope_77 (by decide) ?_
    refine r_iconst X (x := (nI 3)) d_Model_telescope_78 (by decide) ?_
    refine r_iast X d_Model_telescope_79 (by assumption) (by omega) (by omega) ?_
    have ho5 : Out S4 (arS S4 (m + 5) (va_up (S4.1 (m + 5)) 0 3)) (m + 5) 1 := Out.ar (by omega) (by omega)
    have f5 : (arS S4 (m + 5) (va_up (S4.1 (m + 5)) 0 3)).1 (m + 5) = e30 := by rw [arS_1, h45]; rfl
    revert ho5 f5
    generalize arS S4 (m + 5) (va_up (S4.1 (m + 5)) 0 3) = S5
    intro ho5 f5
    have f4 : S5.1 (m + 4) = rst (S3.1 (m + 4)) 0 (fun _ => 0) := by rw [ho5.a1 (by omega)]; exact h44
    have u5 : S5.1 (m + 6) = u := by rw [ho5.a1 (by omega), (hx4 (m + 6) (by omega)).1]; exact u3
    have hV5 : RepM S5 m V1 := (hV3.ex hx4 (by omega) (by omega) (by omega)).ex (ho5.ex (P := fun a => a = m + 5) (fun a h1 h2 => by omega)) (by omega) (by omega) (by omega)
    have z5 : S5.2 m = nI z := by rw [ho5.a2 (by omega)]; exact h4z
    have x5 : exM m S S5 := (x3.trans (hx4.mono (fun a h => by omega))).trans (ho5.ex (fun a h1 h2 => by omega))
    have loop : ∀ n q S6, q + n = 3 → S6.1 (m + 4) = rst (S3.1 (m + 4)) 0 (fun y => if 3 - q ≤ y then R1 y else 0) → Out S5 S6 (m + 4) 1 → J S6 83 [some (.ref m), some (.int (nI k)), some (.int (nI j)), some (.int (nI i)), some (.int (nI z)), some (.int (nI back)), some (.int (nI (q + 1)))] [] := by
      intro n
      induction n with
      | zero =>
        intro q S6 hq h64 ho6
        have hq3 : q = 3 := by omega
        subst hq3
        have hfn : (fun y => if 3 - 3 ≤ y then R1 y else 0) = R1 := by
          funext y
          rw [if_pos (by omega)]
        rw [hfn] at h64
        have g6 : okG (S6.1 (m + 4)) := by rw [h64]; exact hg3.rst 0 (hsR.mono (by omega))
        have w6 : rowf (S6.1 (m + 4)) 0 = R1 := by rw [h64]; exact rowf_rst (hsR.mono (by omega))
        have hV6 : RepM S6 m V1 := hV5.ex (ho6.ex (P := fun a => a = m + 4) (fun a h1 h2 => by omega)) (by omega) (by omega) (by omega)
        have e6 : S6.1 (m + 5) = e30 := by rw [ho6.a1 (by omega)]; exact f5
        have z6 : S6.2 m = nI z := by rw [ho6.a2 (by omega)]; exact z5
        refine r_iload X d_Model_telescope_83 (by rfl) ?_
        refine r_iconst X (x := (nI 3)) d_Model_telescope_85 (by decide) ?_
        refine r_icmp_gtN X d_Model_telescope_86 (tgt := 127) (by decide) (by omega) (by omega) (fun hc => ?_) (fun hc => ?_)
        rotate_left
        · omega
        refine r_aload_n X d_Model_telescope_127 (by rfl) ?_
        refine r_iload_n X d_Model_telescope_128 (by rfl) ?_
        refine r_cVi X lv_Model_84 (m_finish (s := j) (z := z) (f := R1) (e := e30) hm0 hj hV6 g6 w6 hsR e30_ok e6 z6) (by assumption) (by decide) rfl (Nat.le_of_ble_eq_true rfl) d_Model_telescope_129 rfl (fun S7 r h7 => ?_)
        obtain ⟨V2, hK2, hV7, hg7, hw7, hx7⟩ := h7
        have ht1 : nrN 64 R1 e30 = R.1 := by rw [← hrem]
        have ht2 : nrE 64 R1 e30 = R.2.1 := by rw [← hrem]
        have ht3 : nrZ 64 R1 z = R.2.2 := by rw [← hrem]
        have hRok : okP 64 R.1 := by rw [← ht1]; exact (nrN_ok hsR e30_ok).1
        rw [ht1, ht2, ht3] at hK2
        rw [ht1] at hw7
        clear ht1 ht2 ht3 hrem
        have ht80 : tp R.1 80 = tp R.1 64 := tp_two (fun i hi => hRok.2 i (by omega)) hRok.2
        have x7 : exM m S S7 := (x5.trans (ho6.ex (fun a h1 h2 => by omega))).trans (hx7.mono (fun a h => by omega))
        rcases hK2 with ⟨ho2, -, -⟩ | ⟨ho2, rfl, hVe2⟩
        · exact absurd ho2 hrn
        have hVf : V2 = va_up (va_up V k T) j (cut 32 R.1, (R.2.1, R.2.2)) := by
          rw [hrc]
          exact hVe2.trans (congrArg (fun U => va_up U j (R.1, (R.2.1, R.2.2))) hVe)
        refine r_pop X d_Model_telescope_132 (by rfl) ?_
        refine r_aload_n X d_Model_telescope_133 (by rfl) ?_
        refine r_iconst X (x := (nI 0)) d_Model_telescope_134 (by decide) ?_
        refine r_cVi X lv_Model_53 (m_top (p := 0) hm0 (by omega) hg7) (by assumption) (by decide) rfl (Nat.le_of_ble_eq_true rfl) d_Model_telescope_135 rfl (fun S8 r h8 => ?_)
        obtain ⟨hxs, rfl⟩ := h8
        replace hxs := hxs.symm
        subst hxs
        rw [hw7, ht80]
        have htl := tp_le R.1 64
        refine r_if_geT X d_Model_telescope_138 (tgt := 145) (by decide) (by omega) (fun hc => ?_) (fun hc => ?_)
        · refine r_iconst X (x := (nI 0)) d_Model_telescope_145 (by decide) ?_
          refine hR _ _ _ _ d_Model_telescope_146 rfl ⟨_, rfl, V2, hO _ _ (Or.inr ⟨ho, Or.inr ⟨rfl, hc⟩, hVf⟩), ⟨hV7, hg7⟩, x7⟩
        · refine r_iconst X (x := (nI 1)) d_Model_telescope_141 (by decide) ?_
          refine r_goto X d_Model_telescope_142 (tgt := 146) (by decide) ?_
          refine hR _ _ _ _ d_Model_telescope_146 rfl ⟨_, rfl, V2, hO _ _ (Or.inr ⟨ho, Or.inl ⟨rfl, hc⟩, hVf⟩), ⟨hV7, hg7⟩, x7⟩
      | succ n ih =>
        intro q S6 hq h64 ho6
        have u6 : S6.1 (m + 6) = u := by rw [ho6.a1 (by omega)]; exact u5
        have uq : u q < 10007 := hok.2 q
        have hrq := hrw q (by omega)
        obtain ⟨rq, hrq2, hrq7⟩ : ∃ rq, rq = rot u back (q + 1) 0 7 ∧ rq < 10007 := ⟨_, rfl, rot_lt _ _ _ _ _⟩
        rw [← hrq2] at hrq
        have hrqF : (fun _ : Unit => rot u back (q + 1) 0 7) = (fun _ => rq) := by rw [hrq2]
        clear hrq2
        refine r_iload X d_Model_telescope_83 (by rfl) ?_
        refine r_iconst X (x := (nI 3)) d_Model_telescope_85 (by decide) ?_
        refine r_icmp_gtN X d_Model_telescope_86 (tgt := 127) (by decide) (by omega) (by omega) (fun hc => ?_) (fun hc => ?_)
        · omega
        · refine r_aload_n X d_Model_telescope_89 (by rfl) ?_
          refine r_get X lf_Model_19 d_Model_telescope_90 (by assumption) (by rfl) ?_
          refine r_iconst X (x := (nI 3)) d_Model_telescope_93 (by decide) ?_
          refine r_iload X d_Model_telescope_94 (by rfl) ?_
          first | refine r_isubN X d_Model_telescope_96 (by omega) ?_ | refine r_isub X d_Model_telescope_96 ?_
          refine r_aload_n X d_Model_telescope_97 (by rfl) ?_
          refine r_get X lf_Model_25 d_Model_telescope_98 (by assumption) (by rfl) ?_
          refine r_iload X d_Model_telescope_101 (by rfl) ?_
          refine r_iconst X (x := (nI 1)) d_Model_telescope_103 (by decide) ?_
          first | refine r_isubN X d_Model_telescope_104 (by omega) ?_ | refine r_isub X d_Model_telescope_104 ?_
          refine r_iald X d_Model_telescope_105 (by assumption) (by omega) (by omega) ?_
          rw [u6, show q + 1 - 1 = q by omega]
          refine r_aload_n X d_Model_telescope_106 (by rfl) ?_
          refine r_iconst X (x := (nI 0)) d_Model_telescope_107 (by decide) ?_
          refine r_iload X d_Model_telescope_108 (by rfl) ?_
          refine r_iload X d_Model_telescope_110 (by rfl) ?_
          refine r_cVi X lv_Model_118 (m_rootOf (b := 0) (e := q + 1) (back := back) hm0 (by omega) (by omega) (by omega) hb7 hok.2 u6) (by assumption) (by decide) rfl (Nat.le_of_ble_eq_true rfl) d_Model_telescope_112 rfl (fun S7 r h7 => ?_)
          obtain ⟨hxs, rfl⟩ := h7
          replace hxs := hxs.symm
          subst hxs
          rw [show rot u back (q + 1) 0 (7 - 0) = rq from congrFun hrqF ()]
          first | refine r_iaddN X d_Model_telescope_115 ?_ | refine r_iadd X d_Model_telescope_115 ?_
          refine r_sipush X (x := (nI 10007)) d_Model_telescope_116 (by decide) ?_
          refine r_iremN X d_Model_telescope_119 (by decide) (by decide) (by omega) ?_
          refine r_iast X d_Model_telescope_120 (by assumption) (by omega) (by omega) ?_
          refine r_iincN X 1 d_Model_telescope_121 (by rfl) (by decide) (by decide) ?_
          refine r_goto X d_Model_telescope_124 (tgt := 83) (by decide) ?_
          rw [← hrq]
          refine ih (q + 1) _ (by omega) ?_ (ho6.trans (Out.ar (by omega) (by omega)))
          rw [arS_1, h64, show 3 - q = 3 - (q + 1) + 1 by omega, rst_upj _ _ (by omega)]
          exact congrArg (rst (S3.1 (m + 4)) 0) (up_ge R1 (fun _ => 0) (3 - (q + 1)))
    refine r_iconst X (x := (nI 1)) d_Model_telescope_80 (by decide) ?_
    refine r_istore X d_Model_telescope_81 (by decide) ?_
    refine loop 3 0 S5 (by omega) ?_ (Out.rf _ _ _)
    rw [f4]
    congr 1
    funext y
    by_cases h : 3 - 0 ≤ y
    · rw [if_pos h, hr3 y (by omega)]
    · rw [if_neg h]
end MF
