section M7
variable {l : Launch} {D : va_G} {cI cT : ClassId} {G : Gm} {S : Sg}
def nfT (T : Tt) : Prop := (tp T.1 32 = 0 → T.2.1 = (fun _ => 0) ∧ T.2.2 = 1) ∧ ∀ b, b < 8 → 0 < T.2.1 b → hn T.1 (rt b) 32 0 ≠ 0
def nfV (V : Vt) : Prop := ∀ k, k < 8 → nfT (V k)
theorem strip_id {n r k : Nat} {N : Nat → Nat} (h : 0 < k → hn N r n 0 ≠ 0) : strip n r k N = (N, k) := by
  cases k with
  | zero => rfl
  | succ k =>
    unfold strip
    rw [if_neg (h (by omega))]
theorem nrl_id {n : Nat} {N : Nat → Nat} : ∀ (m b : Nat) {e : Nat → Nat}, (∀ i, 0 < e i → hn N (rt i) n 0 ≠ 0) → nrl n m b N e = (N, e) := by
  intro m
  induction m with
  | zero => intro b e _; rfl
  | succ m ih =>
    intro b e h
    unfold nrl
    rw [strip_id (h b)]
    dsimp only
    rw [va_up_id]
    exact ih (b + 1) h
theorem nr_id {N e : Nat → Nat} {z : Nat} (hN : okP 64 N) (h0 : tp N 64 = 0 → e = (fun _ => 0) ∧ z = 1) (h : ∀ i, 0 < e i → hn N (rt i) 64 0 ≠ 0) : nrN 64 N e = N ∧ nrE 64 N e = e ∧ nrZ 64 N z = z := by
  unfold nrN nrE nrZ
  rw [nrl_id 9 0 h]
  by_cases ht : tp N 64 = 0
  · rw [if_pos ht, if_pos ht, if_pos ht]
    exact ⟨(tp_nul hN ht).symm, (h0 ht).1.symm, (h0 ht).2.symm⟩
  · rw [if_neg ht, if_neg ht, if_neg ht]
    exact ⟨rfl, rfl, rfl⟩
theorem pv_nxt {z : Nat} {f : Nat → Nat} (h : okP 32 f) (x : Fp) : pv (nxt 64 z f) 64 x = fi z * pv f 32 (x + 1) := by
  unfold nxt
  rw [pv_scl, pv_tyl, cut_id (fun i hi => h.2 i (by omega)), pv_le (m := 64) (n := 32) (by omega) h.2]
theorem rt_s : ∀ b, b < 9 → 1 ≤ b → fi (rt b) + 1 = fi (rt (b - 1)) := by decide
theorem nxt_nr {T : Tt} (hw : wfT T) (hn' : nfT T) : nrN 64 (nxt 64 T.2.2 T.1) (sh1 T.2.1) = nxt 64 T.2.2 T.1 ∧ nrE 64 (nxt 64 T.2.2 T.1) (sh1 T.2.1) = sh1 T.2.1 ∧ nrZ 64 (nxt 64 T.2.2 T.1) T.2.2 = T.2.2 := by
  have hz : fi T.2.2 ≠ 0 := fi_ne hw.2.2.2.1 hw.2.2.2.2
  refine nr_id (nxt_ok 64 _ hw.1.1) (fun ht => ?_) (fun b hb => ?_)
  · have h0 := tp_nul (nxt_ok 64 T.2.2 hw.1.1) ht
    have h1 : T.1 = fun _ => 0 := by
      refine pv_eq (n := 32) (by omega) hw.1 (zero_ok 32) (fun x _ => ?_)
      have h2 := pv_nxt (z := T.2.2) hw.1 (x - 1)
      rw [show x - 1 + 1 = x by grobner, h0] at h2
      have h3 : pv (fun _ => 0) 64 (x - 1) = 0 := ev_zero (fun _ _ => rfl) _
      have h4 : pv (fun _ => 0) 32 x = 0 := ev_zero (fun _ _ => rfl) _
      rw [h3] at h2
      rw [h4]
      exact fp_zero h2.symm hz
    have h2 : tp T.1 32 = 0 := by
      rw [h1]
      exact tp_eq (by omega) (fun _ _ _ => rfl) (fun h => absurd h (by omega))
    have h3 := hn'.1 h2
    refine ⟨?_, h3.2⟩
    rw [h3.1]
    funext i
    unfold sh1
    split
    · rfl
    · split <;> rfl
  · intro h
    have hb9 : b < 9 ∧ 1 ≤ b ∧ 0 < T.2.1 (b - 1) := by
      unfold sh1 at hb
      split at hb
      · omega
      · split at hb
        · exact ⟨by omega, by omega, hb⟩
        · omega
    have h1 := hn_pv (nxt 64 T.2.2 T.1) (rt b) 64
    rw [h, pv_nxt hw.1, rt_s b hb9.1 hb9.2.1, ← hn_pv] at h1
    have h2 := fp_zero h1.symm hz
    exact hn'.2 (b - 1) (by omega) hb9.2.2 (fi_inj (hn_lt _ _ _ _) (b := 0) (by omega) h2)
set_option maxHeartbeats 8000000 in
set_option maxRecDepth 100000 in
theorem m_shift {m : Nat} {d a : Int32} {V : Vt} (hm : isM G m) (hV : MI S m V) (hw : wfV V) (hnf : nfV V) : CT (mkE l D cI cT) G y_Model_shift b_Model_shift 4 (some .int) 6 [.ref m, .int d, .int a] S (Pi (fun S' r => ∃ V', O_shift V d a r V' ∧ MI S' m V' ∧ exM m S S')) := by
  have hm0 := hm
  obtain ⟨hM, hco, hex, hra, hpo, hbe, hwe, hro, hle, hva⟩ := hm
  refine mk_i (by decide) (eok l D cI cT) (by simp [Value.category]) (Nat.le_of_ble_eq_true rfl) (fun J X hR => ?_)
  show J S 0 [some (.ref m), some (.int d), some (.int a), none] []
  have hbad : ¬ (sl d ∧ sl a) → J S 14 [some (.ref m), some (.int d), some (.int a), none] [] := by
    intro h
    refine r_bipush X (x := (-9)) d_Model_shift_14 (by decide) ?_
    exact hR _ _ _ _ d_Model_shift_16 rfl ⟨_, rfl, V, Or.inl ⟨h, rfl, rfl⟩, hV, Ex.rf _ _⟩
  refine r_iload_n X d_Model_shift_0 (by rfl) ?_
  refine r_cSi X ls_Model_77 m_slot (by decide) rfl (Nat.le_of_ble_eq_true rfl) d_Model_shift_1 rfl (fun Sx rx hx => ?_)
  obtain ⟨hxs, hx⟩ := hx
  replace hxs := hxs.symm
  subst hxs
  rcases hx with ⟨rfl, g1⟩ | ⟨rfl, g1⟩
  rotate_left
  · refine r_if_eqN X d_Model_shift_4 (tgt := 14) (by decide) (by omega) (fun _ => ?_) (fun hc => absurd rfl hc)
    exact hbad (fun h => g1 h.1)
  refine r_if_eqN X d_Model_shift_4 (tgt := 14) (by decide) (by omega) (fun hc => absurd hc (by decide)) (fun _ => ?_)
  refine r_iload_n X d_Model_shift_7 (by rfl) ?_
  refine r_cSi X ls_Model_77 m_slot (by decide) rfl (Nat.le_of_ble_eq_true rfl) d_Model_shift_8 rfl (fun Sx rx hx => ?_)
  obtain ⟨hxs, hx⟩ := hx
  replace hxs := hxs.symm
  subst hxs
  rcases hx with ⟨rfl, g2⟩ | ⟨rfl, g2⟩
  rotate_left
  · refine r_if_neN X d_Model_shift_11 (tgt := 17) (by decide) (by omega) (fun hc => absurd rfl hc) (fun _ => ?_)
    exact hbad (fun h => g2 h.2)
  refine r_if_neN X d_Model_shift_11 (tgt := 17) (by decide) (by omega) (fun _ => ?_) (fun hc => absurd hc (by decide))
  obtain ⟨k, hk, rfl⟩ := g1
  obtain ⟨x, hx, rfl⟩ := g2
  have wx := hw x hx
  have rx := hV.1 x hx
  have hno := nxt_w (z := (V x).2.2) wx.1
  have hnk : okP 32 (nxt 64 (V x).2.2 (V x).1) := by rw [← hno]; exact hmv_ok _ _ 32 0 (by omega)
  refine r_aload_n X d_Model_shift_17 (by rfl) ?_
  refine r_aload_n X d_Model_shift_18 (by rfl) ?_
  refine r_get X lf_Model_16 d_Model_shift_19 (by assumption) (by rfl) ?_
  refine r_iload_n X d_Model_shift_22 (by rfl) ?_
  refine r_iald X d_Model_shift_23 (by assumption) (by omega) (by omega) ?_
  rw [rx.2.2]
  refine r_cVv X lv_Model_56 (m_fresh (z := (V x).2.2) hm0) (by assumption) (by decide) rfl (Nat.le_of_ble_eq_true rfl) d_Model_shift_24 rfl (fun S1 h1 => ?_)
  obtain ⟨h4, h5, hz, hx1⟩ := h1
  have hV1 : RepM S1 m V := hV.1.ex hx1 (by omega) (by omega) (by omega)
  have hg1 : okG (S1.1 (m + 4)) := by rw [h4]; exact hV.2.rst 0 (zero_ok 80)
  refine r_aload_n X d_Model_shift_27 (by rfl) ?_
  refine r_iconst X (x := (nI 0)) d_Model_shift_28 (by decide) ?_
  refine r_iload_n X d_Model_shift_29 (by rfl) ?_
  refine r_cVv X lv_Model_100 (m_moved (p := 0) (a := x) hm0 (by omega) hx hV1 hw hg1) (by assumption) (by decide) rfl (Nat.le_of_ble_eq_true rfl) d_Model_shift_30 rfl (fun S2 h2 => ?_)
  rw [hno] at h2
  have ho2 : Out S1 S2 (m + 4) 1 := by rw [h2]; exact Out.ar (by omega) (by omega)
  have hV2 : RepM S2 m V := hV1.ex (ho2.ex (P := fun a => a = m + 4) (fun a h1 h2 => by omega)) (by omega) (by omega) (by omega)
  have f2 : S2.1 (m + 4) = rst (S1.1 (m + 4)) 0 (nxt 64 (V x).2.2 (V x).1) := by rw [h2, arS_1]
  have loop : ∀ n i S4, i + n = 8 → S4 = arS S2 (m + 5) (fun j => if j < i + 1 then sh1 (V x).2.1 j else 0) → J S4 35 [some (.ref m), some (.int (nI k)), some (.int (nI x)), some (.int (nI i))] [] := by
    intro n
    induction n with
    | zero =>
      intro i S4 hi hS
      have ho4 : Out S2 S4 (m + 5) 1 := by rw [hS]; exact Out.ar (by omega) (by omega)
      have hV4 : RepM S4 m V := hV2.ex (ho4.ex (P := fun a => a = m + 5) (fun a h1 h2 => by omega)) (by omega) (by omega) (by omega)
      have e4 : S4.1 (m + 5) = sh1 (V x).2.1 := by
        rw [hS, arS_1]
        funext j
        by_cases hj : j < i + 1
        · rw [if_pos hj]
        · rw [if_neg hj]
          unfold sh1
          rw [if_neg (by omega), if_neg (by omega)]
      have f4 : S4.1 (m + 4) = rst (S1.1 (m + 4)) 0 (nxt 64 (V x).2.2 (V x).1) := by rw [ho4.a1 (by omega)]; exact f2
      refine r_iload_n X d_Model_shift_35 (by rfl) ?_
      refine r_bipush X (x := (nI 8)) d_Model_shift_36 (by decide) ?_
      refine r_icmp_geN X d_Model_shift_38 (tgt := 66) (by decide) (by omega) (by omega) (fun hc => ?_) (fun hc => ?_)
      · refine r_aload_n X d_Model_shift_66 (by rfl) ?_
        refine r_iload_n X d_Model_shift_67 (by rfl) ?_
        refine r_cVi X lv_Model_84 (m_finish (z := (V x).2.2) (f := nxt 64 (V x).2.2 (V x).1) (e := sh1 (V x).2.1) hm0 hk hV4 (by rw [f4]; exact hg1.rst 0 (hnk.mono (by omega))) (by rw [f4]; exact rowf_rst (hnk.mono (by omega))) (hnk.mono (by omega)) (sh1_ok wx.e) e4 (by rw [ho4.a2 (by omega), ho2.a2 (by omega)]; exact hz)) (by assumption) (by decide) rfl (Nat.le_of_ble_eq_true rfl) d_Model_shift_68 rfl (fun S5 r h5' => ?_)
        obtain ⟨V', h6, hV6, hg6, -, hx6⟩ := h5'
        have hid := nxt_nr wx (hnf x hx)
        rw [hid.1, hid.2.1, hid.2.2] at h6
        exact hR _ _ _ _ d_Model_shift_71 rfl ⟨_, rfl, V', Or.inr ⟨k, x, hk, hx, rfl, rfl, h6⟩, ⟨hV6, hg6⟩, (((hx1.mono (fun a h => by omega)).trans (ho2.ex (fun a h1 h2 => by omega))).trans (ho4.ex (fun a h1 h2 => by omega))).trans (hx6.mono (fun a h => by omega))⟩
      · omega
    | succ n ih =>
      intro i S4 hi hS
      have e1 : S4.1 (m + 2) (8 * x + i) = (V x).2.1 i := by rw [hS, arS_1n (by omega)]; exact (hV2 x hx).2.1 i (by omega)
      refine r_iload_n X d_Model_shift_35 (by rfl) ?_
      refine r_bipush X (x := (nI 8)) d_Model_shift_36 (by decide) ?_
      refine r_icmp_geN X d_Model_shift_38 (tgt := 66) (by decide) (by omega) (by omega) (fun hc => ?_) (fun hc => ?_)
      · omega
      · refine r_aload_n X d_Model_shift_41 (by rfl) ?_
        refine r_get X lf_Model_22 d_Model_shift_42 (by assumption) (by rfl) ?_
        refine r_iload_n X d_Model_shift_45 (by rfl) ?_
        refine r_iconst X (x := (nI 1)) d_Model_shift_46 (by decide) ?_
        first | refine r_iaddN X d_Model_shift_47 ?_ | refine r_iadd X d_Model_shift_47 ?_
        refine r_aload_n X d_Model_shift_48 (by rfl) ?_
        refine r_get X lf_Model_13 d_Model_shift_49 (by assumption) (by rfl) ?_
        refine r_bipush X (x := (nI 8)) d_Model_shift_52 (by decide) ?_
        refine r_iload_n X d_Model_shift_54 (by rfl) ?_
        first | refine r_imulN X d_Model_shift_55 ?_ | refine r_imul X d_Model_shift_55 ?_
        refine r_iload_n X d_Model_shift_56 (by rfl) ?_
        first | refine r_iaddN X d_Model_shift_57 ?_ | refine r_iadd X d_Model_shift_57 ?_
        refine r_iald X d_Model_shift_58 (by assumption) (by omega) (by omega) ?_
        rw [e1]
        refine r_iast X d_Model_shift_59 (by assumption) (by omega) (by omega) ?_
        refine r_iincN X 1 d_Model_shift_60 (by rfl) (by decide) (by decide) ?_
        refine r_goto X d_Model_shift_63 (tgt := 35) (by decide) ?_
        refine ih (i + 1) _ (by omega) ?_
        rw [hS, arS_arS, arS_1]
        congr 1
        funext j
        by_cases hj : j = i + 1
        · rw [hj, va_up_s, if_pos (by omega)]
          unfold sh1
          rw [if_neg (by omega), if_pos (by omega), show i + 1 - 1 = i by omega]
        · rw [va_up_n hj]
          by_cases hj2 : j < i + 1
          · rw [if_pos hj2, if_pos (by omega)]
          · rw [if_neg hj2, if_neg (by omega)]
  refine r_iconst X (x := (nI 0)) d_Model_shift_33 (by decide) ?_
  refine r_istore_n X d_Model_shift_34 (by decide) ?_
  refine loop 8 0 S2 (by omega) ?_
  have e5 : S2.1 (m + 5) = fun j => if j < 0 + 1 then sh1 (V x).2.1 j else 0 := by
    rw [ho2.a1 (by omega), h5]
    funext j
    split
    · unfold sh1
      rw [if_pos (by omega)]
    · rfl
  rw [← e5, arS_id]
set_option maxHeartbeats 8000000 in
set_option maxRecDepth 100000 in
theorem m_check {m : Nat} {d a : Int32} {V : Vt} (hm : isM G m) (hV : MI S m V) (hw : wfV V) : CT (mkE l D cI cT) G y_Model_check b_Model_check 5 (some .boolean) 6 [.ref m, .int d, .int a] S (Pi (fun S' r => O_chk V d a r ∧ MI S' m V ∧ exM m S S')) := by
  have hm0 := hm
  obtain ⟨hM, hco, hex, hra, hpo, hbe, hwe, hro, hle, hva⟩ := hm
  refine mk_i (by decide) (eok l D cI cT) (by simp [Value.category]) (Nat.le_of_ble_eq_true rfl) (fun J X hR => ?_)
  show J S 0 [some (.ref m), some (.int d), some (.int a), none, none] []
  have hbad : ¬ (sl d ∧ sl a) → J S 14 [some (.ref m), some (.int d), some (.int a), none, none] [] := by
    intro h
    refine r_iconst X (x := (nI 0)) d_Model_check_14 (by decide) ?_
    exact hR _ _ _ _ d_Model_check_15 (by decide) ⟨_, rfl, Or.inl ⟨h, rfl⟩, hV, Ex.rf _ _⟩
  refine r_iload_n X d_Model_check_0 (by rfl) ?_
  refine r_cSi X ls_Model_77 m_slot (by decide) rfl (Nat.le_of_ble_eq_true rfl) d_Model_check_1 rfl (fun Sx rx hx => ?_)
  obtain ⟨hxs, hx⟩ := hx
  replace hxs := hxs.symm
  subst hxs
  rcases hx with ⟨rfl, g1⟩ | ⟨rfl, g1⟩
  rotate_left
  · refine r_if_eqN X d_Model_check_4 (tgt := 14) (by decide) (by omega) (fun _ => ?_) (fun hc => absurd rfl hc)
    exact hbad (fun h => g1 h.1)
  refine r_if_eqN X d_Model_check_4 (tgt := 14) (by decide) (by omega) (fun hc => absurd hc (by decide)) (fun _ => ?_)
  refine r_iload_n X d_Model_check_7 (by rfl) ?_
  refine r_cSi X ls_Model_77 m_slot (by decide) rfl (Nat.le_of_ble_eq_true rfl) d_Model_check_8 rfl (fun Sx rx hx => ?_)
  obtain ⟨hxs, hx⟩ := hx
  replace hxs := hxs.symm
  subst hxs
  rcases hx with ⟨rfl, g2⟩ | ⟨rfl, g2⟩
  rotate_left
  · refine r_if_neN X d_Model_check_11 (tgt := 16) (by decide) (by omega) (fun hc => absurd rfl hc) (fun _ => ?_)
    exact hbad (fun h => g2 h.2)
  refine r_if_neN X d_Model_check_11 (tgt := 16) (by decide) (by omega) (fun _ => ?_) (fun hc => absurd hc (by decide))
  obtain ⟨k, hk, rfl⟩ := g1
  obtain ⟨x, hx, rfl⟩ := g2
  have wk := hw k hk
  have wx := hw x hx
  refine r_aload_n X d_Model_check_16 (by rfl) ?_
  refine r_iload_n X d_Model_check_17 (by rfl) ?_
  refine r_cVv X lv_Model_103 (m_differ hm0 hk hV hw) (by assumption) (by decide) rfl (Nat.le_of_ble_eq_true rfl) d_Model_check_18 rfl (fun S1 h1 => ?_)
  obtain ⟨h4, hg, h5, hz, hV1, hx1⟩ := h1
  have okN := difN_ok (V k)
  obtain ⟨w1, w2, w3⟩ := nr_w (difE (V k)) (V k).2.2 okN
  have hok := nrN_ok okN (difE_ok wk)
  refine r_aload_n X d_Model_check_21 (by rfl) ?_
  refine r_cVi X lv_Model_66 (m_settled hm0 hg h4 (difE_ok wk) h5 hz) (by assumption) (by decide) rfl (Nat.le_of_ble_eq_true rfl) d_Model_check_22 rfl (fun S2 r h2 => ?_)
  rw [w1, w2, w3] at h2
  obtain ⟨q4, q5, qz, qx, h2⟩ := h2
  have hg2 : okG (S2.1 (m + 4)) := by rw [q4]; exact hg.rst 0 (hok.1.mono (by omega))
  have hV2 : RepM S2 m V := hV1.ex qx (by omega) (by omega) (by omega)
  have hx2 : exM m S S2 := (hx1.mono (fun a h => by omega)).trans (qx.mono (fun a h => by omega))
  rw [ovr_w hok.1] at h2
  have r4 : ∀ i, i < 80 → S2.1 (m + 4) (0 + i) = nrN 64 (difN (V k)) (difE (V k)) i := fun i hi => by rw [q4]; exact rst_at hi
  have rx := hV2 x hx
  have hz2 : nrZ 64 (difN (V k)) (V k).2.2 < 10007 := by unfold nrZ; split; decide; exact wk.2.2.2.2
  have loop2 : ∀ n i v, i + n = 8 → ((v = nI 1 ∧ ¬ ovr 64 (nrN 64 (difN (V k)) (difE (V k))) (nrE 64 (difN (V k)) (difE (V k))) ∧ nrZ 64 (difN (V k)) (V k).2.2 = (V x).2.2 ∧ (∀ j, j < 32 → nrN 64 (difN (V k)) (difE (V k)) j = (V x).1 j) ∧ (∀ j, j < i → nrE 64 (difN (V k)) (difE (V k)) j = (V x).2.1 j)) ∨ (v = nI 0 ∧ ¬ chkP (V k) (V x))) → J S2 100 [some (.ref m), some (.int (nI k)), some (.int (nI x)), some (.int v), some (.int (nI i))] [] := by
    intro n
    induction n with
    | zero =>
      intro i v hi hv
      refine r_iload X d_Model_check_100 (by rfl) ?_
      refine r_bipush X (x := (nI 8)) d_Model_check_102 (by decide) ?_
      refine r_icmp_geN X d_Model_check_104 (tgt := 145) (by decide) (by omega) (by omega) (fun hc => ?_) (fun hc => ?_)
      · refine r_iload_n X d_Model_check_145 (by rfl) ?_
        rcases hv with ⟨rfl, hv1, hv2, hv3, hv4⟩ | ⟨rfl, hv⟩
        · refine hR _ _ _ _ d_Model_check_146 (by decide) ⟨_, rfl, Or.inr ⟨k, x, hk, hx, rfl, rfl, Or.inl ⟨rfl, hv1, ?_, ?_, hv2⟩⟩, ⟨hV2, hg2⟩, hx2⟩
          · funext j
            by_cases hj : j < 32
            · exact hv3 j hj
            · rw [wx.1.2 j (by omega)]
              refine hok.1.tz ?_
              by_cases ht : 32 < tp (nrN 64 (difN (V k)) (difE (V k))) 64
              · exact absurd (Or.inr (Or.inl ht)) hv1
              · omega
          · funext j
            by_cases hj : j < 8
            · exact hv4 j (by omega)
            · rw [wx.2.2.1 j (by omega)]
              by_cases hj9 : 9 ≤ j
              · exact hok.2.2 j hj9
              · have hj8 : j = 8 := by omega
                subst hj8
                rcases Nat.eq_zero_or_pos (nrE 64 (difN (V k)) (difE (V k)) 8) with ht | ht
                · exact ht
                · exact absurd (Or.inr (Or.inr ht)) hv1
        · exact hR _ _ _ _ d_Model_check_146 (by decide) ⟨_, rfl, Or.inr ⟨k, x, hk, hx, rfl, rfl, Or.inr ⟨rfl, hv⟩⟩, ⟨hV2, hg2⟩, hx2⟩
      · omega
    | succ n ih =>
      intro i v hi hv
      have no : ¬ chkP (V k) (V x) → J S2 137 [some (.ref m), some (.int (nI k)), some (.int (nI x)), some (.int v), some (.int (nI i))] [] := by
        intro h
        refine r_iconst X (x := (nI 0)) d_Model_check_137 (by decide) ?_
        refine r_istore_n X d_Model_check_138 (by decide) ?_
        refine r_iincN X 1 d_Model_check_139 (by rfl) (by decide) (by decide) ?_
        refine r_goto X d_Model_check_142 (tgt := 100) (by decide) ?_
        exact ih (i + 1) _ (by omega) (Or.inr ⟨rfl, h⟩)
      refine r_iload X d_Model_check_100 (by rfl) ?_
      refine r_bipush X (x := (nI 8)) d_Model_check_102 (by decide) ?_
      refine r_icmp_geN X d_Model_check_104 (tgt := 145) (by decide) (by omega) (by omega) (fun hc => ?_) (fun hc => ?_)
      · omega
      · refine r_iload_n X d_Model_check_107 (by rfl) ?_
        rcases hv with ⟨rfl, hv1, hv2, hv3, hv4⟩ | ⟨rfl, hv⟩
        · refine r_if_eqN X d_Model_check_108 (tgt := 137) (by decide) (by omega) (fun hc => ?_) (fun hc => ?_)
          · omega
          · refine r_aload_n X d_Model_check_111 (by rfl) ?_
            refine r_get X lf_Model_22 d_Model_check_112 (by assumption) (by rfl) ?_
            refine r_iload X d_Model_check_115 (by rfl) ?_
            refine r_iald X d_Model_check_117 (by assumption) (by omega) (by omega) ?_
            rw [q5]
            refine r_aload_n X d_Model_check_118 (by rfl) ?_
            refine r_get X lf_Model_13 d_Model_check_119 (by assumption) (by rfl) ?_
            refine r_bipush X (x := (nI 8)) d_Model_check_122 (by decide) ?_
            refine r_iload_n X d_Model_check_124 (by rfl) ?_
            first | refine r_imulN X d_Model_check_125 ?_ | refine r_imul X d_Model_check_125 ?_
            refine r_iload X d_Model_check_126 (by rfl) ?_
            first | refine r_iaddN X d_Model_check_128 ?_ | refine r_iadd X d_Model_check_128 ?_
            refine r_iald X d_Model_check_129 (by assumption) (by omega) (by omega) ?_
            rw [rx.2.1 i (by omega)]
            have be := hok.2.1 i
            have bf := wx.2.1 i
            refine r_icmp_neN X d_Model_check_130 (tgt := 137) (by decide) (by omega) (by omega) (fun hc => ?_) (fun hc => ?_)
            · exact no (fun h => hc (by rw [h.2.2.1]))
            · refine r_iconst X (x := (nI 1)) d_Model_check_133 (by decide) ?_
              refine r_goto X d_Model_check_134 (tgt := 138) (by decide) ?_
              refine r_istore_n X d_Model_check_138 (by decide) ?_
              refine r_iincN X 1 d_Model_check_139 (by rfl) (by decide) (by decide) ?_
              refine r_goto X d_Model_check_142 (tgt := 100) (by decide) ?_
              refine ih (i + 1) _ (by omega) (Or.inl ⟨rfl, hv1, hv2, hv3, fun j hj => ?_⟩)
              by_cases e : j = i
              · rw [e]; exact hc
              · exact hv4 j (by omega)
        · refine r_if_eqN X d_Model_check_108 (tgt := 137) (by decide) (by omega) (fun hc => ?_) (fun hc => ?_)
          · exact no hv
          · omega
  have loop1 : ∀ n i v, i + n = 32 → ((v = nI 1 ∧ ¬ ovr 64 (nrN 64 (difN (V k)) (difE (V k))) (nrE 64 (difN (V k)) (difE (V k))) ∧ nrZ 64 (difN (V k)) (V k).2.2 = (V x).2.2 ∧ (∀ j, j < i → nrN 64 (difN (V k)) (difE (V k)) j = (V x).1 j)) ∨ (v = nI 0 ∧ ¬ chkP (V k) (V x))) → J S2 50 [some (.ref m), some (.int (nI k)), some (.int (nI x)), some (.int v), some (.int (nI i))] [] := by
    intro n
    induction n with
    | zero =>
      intro i v hi hv
      refine r_iload X d_Model_check_50 (by rfl) ?_
      refine r_bipush X (x := (nI 32)) d_Model_check_52 (by decide) ?_
      refine r_icmp_geN X d_Model_check_54 (tgt := 97) (by decide) (by omega) (by omega) (fun hc => ?_) (fun hc => ?_)
      · refine r_iconst X (x := (nI 0)) d_Model_check_97 (by decide) ?_
        refine r_istore X d_Model_check_98 (by decide) ?_
        refine loop2 8 0 v (by omega) ?_
        rcases hv with ⟨e, hv1, hv2, hv3⟩ | hv
        · exact Or.inl ⟨e, hv1, hv2, fun j hj => hv3 j (by omega), fun j hj => absurd hj (by omega)⟩
        · exact Or.inr hv
      · omega
    | succ n ih =>
      intro i v hi hv
      have no : ¬ chkP (V k) (V x) → J S2 89 [some (.ref m), some (.int (nI k)), some (.int (nI x)), some (.int v), some (.int (nI i))] [] := by
        intro h
        refine r_iconst X (x := (nI 0)) d_Model_check_89 (by decide) ?_
        refine r_istore_n X d_Model_check_90 (by decide) ?_
        refine r_iincN X 1 d_Model_check_91 (by rfl) (by decide) (by decide) ?_
        refine r_goto X d_Model_check_94 (tgt := 50) (by decide) ?_
        exact ih (i + 1) _ (by omega) (Or.inr ⟨rfl, h⟩)
      refine r_iload X d_Model_check_50 (by rfl) ?_
      refine r_bipush X (x := (nI 32)) d_Model_check_52 (by decide) ?_
      refine r_icmp_geN X d_Model_check_54 (tgt := 97) (by decide) (by omega) (by omega) (fun hc => ?_) (fun hc => ?_)
      · omega
      · refine r_iload_n X d_Model_check_57 (by rfl) ?_
        rcases hv with ⟨rfl, hv1, hv2, hv3⟩ | ⟨rfl, hv⟩
        · refine r_if_eqN X d_Model_check_58 (tgt := 89) (by decide) (by omega) (fun hc => ?_) (fun hc => ?_)
          · omega
          · refine r_aload_n X d_Model_check_61 (by rfl) ?_
            refine r_get X lf_Model_19 d_Model_check_62 (by assumption) (by rfl) ?_
            refine r_iconst X (x := (nI 0)) d_Model_check_65 (by decide) ?_
            refine r_iload X d_Model_check_66 (by rfl) ?_
            first | refine r_iaddN X d_Model_check_68 ?_ | refine r_iadd X d_Model_check_68 ?_
            refine r_iald X d_Model_check_69 (by assumption) (by omega) (by omega) ?_
            rw [r4 i (by omega)]
            refine r_aload_n X d_Model_check_70 (by rfl) ?_
            refine r_get X lf_Model_7 d_Model_check_71 (by assumption) (by rfl) ?_
            refine r_bipush X (x := (nI 32)) d_Model_check_74 (by decide) ?_
            refine r_iload_n X d_Model_check_76 (by rfl) ?_
            first | refine r_imulN X d_Model_check_77 ?_ | refine r_imul X d_Model_check_77 ?_
            refine r_iload X d_Model_check_78 (by rfl) ?_
            first | refine r_iaddN X d_Model_check_80 ?_ | refine r_iadd X d_Model_check_80 ?_
            refine r_iald X d_Model_check_81 (by assumption) (by omega) (by omega) ?_
            rw [rx.1 i (by omega)]
            have be := hok.1.1 i
            have bf := wx.1.1 i
            refine r_icmp_neN X d_Model_check_82 (tgt := 89) (by decide) (by omega) (by omega) (fun hc => ?_) (fun hc => ?_)
            · exact no (fun h => hc (by rw [h.2.1]))
            · refine r_iconst X (x := (nI 1)) d_Model_check_85 (by decide) ?_
              refine r_goto X d_Model_check_86 (tgt := 90) (by decide) ?_
              refine r_istore_n X d_Model_check_90 (by decide) ?_
              refine r_iincN X 1 d_Model_check_91 (by rfl) (by decide) (by decide) ?_
              refine r_goto X d_Model_check_94 (tgt := 50) (by decide) ?_
              refine ih (i + 1) _ (by omega) (Or.inl ⟨rfl, hv1, hv2, fun j hj => ?_⟩)
              by_cases e : j = i
              · rw [e]; exact hc
              · exact hv3 j (by omega)
        · refine r_if_eqN X d_Model_check_58 (tgt := 89) (by decide) (by omega) (fun hc => ?_) (fun hc => ?_)
          · exact no hv
          · omega
  have no1 : ¬ chkP (V k) (V x) → J S2 45 [some (.ref m), some (.int (nI k)), some (.int (nI x)), none, none] [] := by
    intro h
    refine r_iconst X (x := (nI 0)) d_Model_check_45 (by decide) ?_
    refine r_istore_n X d_Model_check_46 (by decide) ?_
    refine r_iconst X (x := (nI 0)) d_Model_check_47 (by decide) ?_
    refine r_istore X d_Model_check_48 (by decide) ?_
    exact loop1 32 0 _ (by omega) (Or.inr ⟨rfl, h⟩)
  rcases h2 with ⟨rfl, h2⟩ | ⟨rfl, h2⟩
  · refine r_if_neN X d_Model_check_25 (tgt := 45) (by decide) (by omega) (fun hc => ?_) (fun hc => ?_)
    · exact no1 (fun h => h.1 h2)
    · omega
  · refine r_if_neN X d_Model_check_25 (tgt := 45) (by decide) (by omega) (fun hc => ?_) (fun hc => ?_)
    · omega
    · refine r_aload_n X d_Model_check_28 (by rfl) ?_
      refine r_get X lf_Model_49 d_Model_check_29 (by assumption) (by rfl) ?_
      rw [qz]
      refine r_aload_n X d_Model_check_32 (by rfl) ?_
      refine r_get X lf_Model_16 d_Model_check_33 (by assumption) (by rfl) ?_
      refine r_iload_n X d_Model_check_36 (by rfl) ?_
      refine r_iald X d_Model_check_37 (by assumption) (by omega) (by omega) ?_
      rw [rx.2.2]
      have bf := wx.2.2.2.2
      refine r_icmp_neN X d_Model_check_38 (tgt := 45) (by decide) (by omega) (by omega) (fun hc => ?_) (fun hc => ?_)
      · exact no1 (fun h => hc h.2.2.2)
      · refine r_iconst X (x := (nI 1)) d_Model_check_41 (by decide) ?_
        refine r_goto X d_Model_check_42 (tgt := 46) (by decide) ?_
        refine r_istore_n X d_Model_check_46 (by decide) ?_
        refine r_iconst X (x := (nI 0)) d_Model_check_47 (by decide) ?_
        refine r_istore X d_Model_check_48 (by decide) ?_
        exact loop1 32 0 _ (by omega) (Or.inl ⟨rfl, h2, hc, fun j hj => absurd hj (by omega)⟩)
end M7
