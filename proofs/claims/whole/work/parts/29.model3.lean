section M3
variable {l : Launch} {D : va_G} {cI cT : ClassId} {G : Gm} {S : Sg}
theorem dq_w {r : Nat} {f : Nat → Nat} (h : okP 64 f) : dq 80 r f = dq 64 r f := by
  funext i
  exact hn_le (by omega) (fun j hj => h.2 j (by omega))
theorem strip_w {r : Nat} : ∀ (k : Nat) {N : Nat → Nat}, okP 64 N → strip 80 r k N = strip 64 r k N := by
  intro k
  induction k with
  | zero => intro N _; rfl
  | succ k ih =>
    intro N h
    unfold strip
    rw [hn_le (k := 80) (m := 64) (by omega) (fun j hj => h.2 j (by omega)), dq_w h, ih (dq_ok 64 r N)]
theorem nrl_w : ∀ (m b : Nat) {N e : Nat → Nat}, okP 64 N → nrl 80 m b N e = nrl 64 m b N e := by
  intro m
  induction m with
  | zero => intro b N e _; rfl
  | succ m ih =>
    intro b N e h
    unfold nrl
    rw [strip_w (e b) h, ih (b + 1) (strip_ok (e b) h).1]
theorem nr_w {N : Nat → Nat} (e : Nat → Nat) (z : Nat) (h : okP 64 N) : nrN 80 N e = nrN 64 N e ∧ nrE 80 N e = nrE 64 N e ∧ nrZ 80 N z = nrZ 64 N z := by
  have ht : tp N 80 = tp N 64 := tp_two (fun i hi => h.2 i (by omega)) h.2
  unfold nrN nrE nrZ
  rw [ht, nrl_w 9 0 h]
  exact ⟨rfl, rfl, rfl⟩
theorem ovr_w {N e : Nat → Nat} (h : okP 64 N) : ovr 80 N e ↔ ovr 64 N e := by
  have ht : tp N 80 = tp N 64 := tp_two (fun i hi => h.2 i (by omega)) h.2
  unfold ovr
  rw [ht]
theorem prt_in {g : Nat → Nat} {p : Nat} {h : Nat → Nat} {n i : Nat} (hi : i < n) : prt g p h n (p + i) = h i := by
  unfold prt
  rw [if_pos (by omega), show p + i - p = i by omega]
abbrev exF (m : Nat) : Sg → Sg → Prop := Ex (fun a => m ≤ a ∧ a < m + 6)
set_option maxHeartbeats 4000000 in
set_option maxRecDepth 100000 in
theorem m_put {m s z : Nat} {N e : Nat → Nat} {V : Vt} (hm : isM G m) (hs : s < 8) (hV : RepM S m V) (hN : ∀ i, i < 32 → S.1 (m + 4) i = N i) (he : ∀ b, b < 8 → S.1 (m + 5) b = e b) (hz : S.2 m = nI z) : CT (mkE l D cI cT) G y_Model_put b_Model_put 3 none 0 [.ref m, .int (nI s)] S (Pv (fun S' => RepM S' m (va_up V s (N, e, z)) ∧ Out S S' (m + 1) 3)) := by
  have hm0 := hm
  obtain ⟨hM, hco, hex, hra, hpo, hbe, hwe, hro, hle, hva⟩ := hm
  refine mk_v (by decide) (eok l D cI cT) (by simp [Value.category]) (Nat.le_of_ble_eq_true rfl) (fun J X hR => ?_)
  show J S 0 [some (.ref m), some (.int (nI s)), none] []
  have loop2 : ∀ k i S1, i + k = 8 → S1 = arS (arS S (m + 1) (prt (S.1 (m + 1)) (32 * s) (S.1 (m + 4)) 32)) (m + 2) (prt (S.1 (m + 2)) (8 * s) (S.1 (m + 5)) i) → J S1 35 [some (.ref m), some (.int (nI s)), some (.int (nI i))] [] := by
    intro k
    induction k with
    | zero =>
      intro i S1 hi hS
      have hz1 : S1.2 m = nI z := by rw [hS, arS_2, arS_2]; exact hz
      have f1 : S1.1 (m + 1) = prt (S.1 (m + 1)) (32 * s) (S.1 (m + 4)) 32 := by rw [hS, arS_1n (by omega), arS_1]
      have f2 : S1.1 (m + 2) = prt (S.1 (m + 2)) (8 * s) (S.1 (m + 5)) 8 := by rw [hS, arS_1, show i = 8 by omega]
      have f3 : S1.1 (m + 3) = S.1 (m + 3) := by rw [hS, arS_1n (by omega), arS_1n (by omega)]
      have ho : Out S S1 (m + 1) 3 := by rw [hS]; exact (Out.ar (by omega) (by omega)).trans (Out.ar (by omega) (by omega))
      refine r_iload_n X d_Model_put_35 (by rfl) ?_
      refine r_bipush X (x := (nI 8)) d_Model_put_36 (by decide) ?_
      refine r_icmp_geN X d_Model_put_38 (tgt := 64) (by decide) (by omega) (by omega) (fun hc => ?_) (fun hc => ?_)
      · refine r_aload_n X d_Model_put_64 (by rfl) ?_
        refine r_get X lf_Model_16 d_Model_put_65 (by assumption) (by rfl) ?_
        refine r_iload_n X d_Model_put_68 (by rfl) ?_
        refine r_aload_n X d_Model_put_69 (by rfl) ?_
        refine r_get X lf_Model_49 d_Model_put_70 (by assumption) (by rfl) ?_
        rw [hz1]
        refine r_iast X d_Model_put_73 (by assumption) (by omega) (by omega) ?_
        refine hR _ _ _ d_Model_put_74 ⟨rfl, ?_, ho.trans (Out.ar (by omega) (by omega))⟩
        intro t ht
        rw [arS_1n (by omega), arS_1n (by omega), arS_1, f1, f2, f3]
        by_cases hts : t = s
        · subst hts
          rw [va_up_s, va_up_s]
          refine ⟨fun j hj => ?_, fun b hb => ?_, rfl⟩
          · rw [prt_in hj]; exact hN j hj
          · rw [prt_in hb]; exact he b hb
        · rw [va_up_n hts, va_up_n hts]
          have h := hV t ht
          refine ⟨fun j hj => ?_, fun b hb => ?_, h.2.2⟩
          · rw [prt_at (by omega)]; exact h.1 j hj
          · rw [prt_at (by omega)]; exact h.2.1 b hb
      · omega
    | succ k ih =>
      intro i S1 hi hS
      have e1 : S1.1 (m + 5) i = S.1 (m + 5) i := by rw [hS, arS_1n (by omega), arS_1n (by omega)]
      refine r_iload_n X d_Model_put_35 (by rfl) ?_
      refine r_bipush X (x := (nI 8)) d_Model_put_36 (by decide) ?_
      refine r_icmp_geN X d_Model_put_38 (tgt := 64) (by decide) (by omega) (by omega) (fun hc => ?_) (fun hc => ?_)
      · omega
      · refine r_aload_n X d_Model_put_41 (by rfl) ?_
        refine r_get X lf_Model_13 d_Model_put_42 (by assumption) (by rfl) ?_
        refine r_bipush X (x := (nI 8)) d_Model_put_45 (by decide) ?_
        refine r_iload_n X d_Model_put_47 (by rfl) ?_
        first | refine r_imulN X d_Model_put_48 ?_ | refine r_imul X d_Model_put_48 ?_
        refine r_iload_n X d_Model_put_49 (by rfl) ?_
        first | refine r_iaddN X d_Model_put_50 ?_ | refine r_iadd X d_Model_put_50 ?_
        refine r_aload_n X d_Model_put_51 (by rfl) ?_
        refine r_get X lf_Model_22 d_Model_put_52 (by assumption) (by rfl) ?_
        refine r_iload_n X d_Model_put_55 (by rfl) ?_
        refine r_iald X d_Model_put_56 (by assumption) (by omega) (by omega) ?_
        rw [e1]
        refine r_iast X d_Model_put_57 (by assumption) (by omega) (by omega) ?_
        refine r_iincN X 1 d_Model_put_58 (by rfl) (by decide) (by decide) ?_
        refine r_goto X d_Model_put_61 (tgt := 35) (by decide) ?_
        refine ih (i + 1) _ (by omega) ?_
        rw [hS, arS_arS, arS_1, prt_up _ (8 * s) (S.1 (m + 5)) i]
  have loop : ∀ k i S1, i + k = 32 → S1 = arS S (m + 1) (prt (S.1 (m + 1)) (32 * s) (S.1 (m + 4)) i) → J S1 2 [some (.ref m), some (.int (nI s)), some (.int (nI i))] [] := by
    intro k
    induction k with
    | zero =>
      intro i S1 hi hS
      refine r_iload_n X d_Model_put_2 (by rfl) ?_
      refine r_bipush X (x := (nI 32)) d_Model_put_3 (by decide) ?_
      refine r_icmp_geN X d_Model_put_5 (tgt := 33) (by decide) (by omega) (by omega) (fun hc => ?_) (fun hc => ?_)
      · refine r_iconst X (x := (nI 0)) d_Model_put_33 (by decide) ?_
        refine r_istore_n X d_Model_put_34 (by decide) ?_
        refine loop2 8 0 _ (by omega) ?_
        rw [hS, show i = 32 by omega, prt_0]
        have h := arS_id (arS S (m + 1) (prt (S.1 (m + 1)) (32 * s) (S.1 (m + 4)) 32)) (m + 2)
        rw [arS_1n (by omega)] at h
        exact h.symm
      · omega
    | succ k ih =>
      intro i S1 hi hS
      have e1 : S1.1 (m + 4) (0 + i) = S.1 (m + 4) i := by rw [hS, arS_1n (by omega), Nat.zero_add]
      refine r_iload_n X d_Model_put_2 (by rfl) ?_
      refine r_bipush X (x := (nI 32)) d_Model_put_3 (by decide) ?_
      refine r_icmp_geN X d_Model_put_5 (tgt := 33) (by decide) (by omega) (by omega) (fun hc => ?_) (fun hc => ?_)
      · omega
      · refine r_aload_n X d_Model_put_8 (by rfl) ?_
        refine r_get X lf_Model_7 d_Model_put_9 (by assumption) (by rfl) ?_
        refine r_bipush X (x := (nI 32)) d_Model_put_12 (by decide) ?_
        refine r_iload_n X d_Model_put_14 (by rfl) ?_
        first | refine r_imulN X d_Model_put_15 ?_ | refine r_imul X d_Model_put_15 ?_
        refine r_iload_n X d_Model_put_16 (by rfl) ?_
        first | refine r_iaddN X d_Model_put_17 ?_ | refine r_iadd X d_Model_put_17 ?_
        refine r_aload_n X d_Model_put_18 (by rfl) ?_
        refine r_get X lf_Model_19 d_Model_put_19 (by assumption) (by rfl) ?_
        refine r_iconst X (x := (nI 0)) d_Model_put_22 (by decide) ?_
        refine r_iload_n X d_Model_put_23 (by rfl) ?_
        first | refine r_iaddN X d_Model_put_24 ?_ | refine r_iadd X d_Model_put_24 ?_
        refine r_iald X d_Model_put_25 (by assumption) (by omega) (by omega) ?_
        rw [e1]
        refine r_iast X d_Model_put_26 (by assumption) (by omega) (by omega) ?_
        refine r_iincN X 1 d_Model_put_27 (by rfl) (by decide) (by decide) ?_
        refine r_goto X d_Model_put_30 (tgt := 2) (by decide) ?_
        refine ih (i + 1) _ (by omega) ?_
        rw [hS, arS_arS, arS_1, prt_up _ (32 * s) (S.1 (m + 4)) i]
  refine r_iconst X (x := (nI 0)) d_Model_put_0 (by decide) ?_
  refine r_istore_n X d_Model_put_1 (by decide) ?_
  refine loop 32 0 _ (by omega) ?_
  rw [prt_0, arS_id]
set_option maxHeartbeats 4000000 in
set_option maxRecDepth 100000 in
theorem m_finish {m s z : Nat} {f e : Nat → Nat} {V : Vt} (hm : isM G m) (hs : s < 8) (hV : RepM S m V) (hg : okG (S.1 (m + 4))) (hf : rowf (S.1 (m + 4)) 0 = f) (hf64 : okP 64 f) (hE : okE e) (he : S.1 (m + 5) = e) (hz : S.2 m = nI z) : CT (mkE l D cI cT) G y_Model_finish b_Model_finish 2 (some .int) 3 [.ref m, .int (nI s)] S (Pi (fun S' r => ∃ V', Kp (nrN 64 f e) (nrE 64 f e) (nrZ 64 f z) V s r V' ∧ RepM S' m V' ∧ okG (S'.1 (m + 4)) ∧ rowf (S'.1 (m + 4)) 0 = nrN 64 f e ∧ exF m S S')) := by
  have hm0 := hm
  obtain ⟨hM, hco, hex, hra, hpo, hbe, hwe, hro, hle, hva⟩ := hm
  obtain ⟨w1, w2, w3⟩ := nr_w e z hf64
  have hok := nrN_ok hf64 hE
  refine mk_i (by decide) (eok l D cI cT) (by simp [Value.category]) (Nat.le_of_ble_eq_true rfl) (fun J X hR => ?_)
  show J S 0 [some (.ref m), some (.int (nI s))] []
  refine r_aload_n X d_Model_finish_0 (by rfl) ?_
  refine r_cVi X lv_Model_66 (m_settled hm0 hg hf hE he hz) (by assumption) (by decide) rfl (Nat.le_of_ble_eq_true rfl) d_Model_finish_1 rfl (fun S1 r h1 => ?_)
  rw [w1, w2, w3] at h1
  obtain ⟨h4, h5, hz1, hx, h1⟩ := h1
  have hg1 : okG (S1.1 (m + 4)) := by rw [h4]; exact hg.rst 0 (hok.1.mono (by omega))
  have hr1 : rowf (S1.1 (m + 4)) 0 = nrN 64 f e := by rw [h4]; exact rowf_rst (hok.1.mono (by omega))
  have hV1 : RepM S1 m V := hV.ex hx (by omega) (by omega) (by omega)
  have hx1 : exF m S S1 := hx.mono (fun a h => by omega)
  rw [ovr_w hok.1] at h1
  rcases h1 with ⟨rfl, h1⟩ | ⟨rfl, h1⟩
  · refine r_if_eqN X d_Model_finish_4 (tgt := 10) (by decide) (by omega) (fun hc => ?_) (fun hc => ?_)
    · omega
    · refine r_bipush X (x := (-7)) d_Model_finish_7 (by decide) ?_
      exact hR _ _ _ _ d_Model_finish_9 rfl ⟨_, rfl, V, Or.inl ⟨h1, rfl, rfl⟩, hV1, hg1, hr1, hx1⟩
  · refine r_if_eqN X d_Model_finish_4 (tgt := 10) (by decide) (by omega) (fun hc => ?_) (fun hc => ?_)
    · refine r_aload_n X d_Model_finish_10 (by rfl) ?_
      refine r_iload_n X d_Model_finish_11 (by rfl) ?_
      refine r_cVv X lv_Model_70 (m_put (N := nrN 64 f e) (e := nrE 64 f e) hm0 hs hV1 (fun i hi => by rw [h4, ← Nat.zero_add i, rst_at (by omega), Nat.zero_add]) (fun b _ => by rw [h5]) hz1) (by assumption) (by decide) rfl (Nat.le_of_ble_eq_true rfl) d_Model_finish_12 rfl (fun S2 h2 => ?_)
      obtain ⟨hV2, ho2⟩ := h2
      refine r_iconst X (x := (nI 0)) d_Model_finish_15 (by decide) ?_
      refine hR _ _ _ _ d_Model_finish_16 rfl ⟨_, rfl, _, Or.inr ⟨h1, rfl, rfl⟩, hV2, ?_, ?_, hx1.trans (ho2.ex (fun a h1 h2 => by omega))⟩
      · rw [ho2.a1 (by omega)]; exact hg1
      · rw [ho2.a1 (by omega)]; exact hr1
    · omega
set_option maxHeartbeats 4000000 in
set_option maxRecDepth 100000 in
theorem m_slot {x : Int32} : CT (mkE l D cI cT) G y_Model_slot b_Model_slot 1 (some .boolean) 0 [.int x] S (Pi (fun S' r => S' = S ∧ ((r = nI 1 ∧ sl x) ∨ (r = nI 0 ∧ ¬ sl x)))) := by
  refine mk_i (by decide) (eok l D cI cT) (by simp [Value.category]) (Nat.le_of_ble_eq_true rfl) (fun J X hR => ?_)
  show J S 0 [some (.int x)] []
  refine r_iload_n X d_Model_slot_0 (by rfl) ?_
  refine r_if_lt X d_Model_slot_1 (tgt := 14) (by decide) (fun hc => ?_) (fun hc => ?_)
  · refine r_iconst X (x := (nI 0)) d_Model_slot_14 (by decide) ?_
    exact hR _ _ _ _ d_Model_slot_15 (by decide) ⟨_, rfl, rfl, Or.inr ⟨rfl, fun ⟨k, hk, e⟩ => nI_neg_no hc (by omega) e⟩⟩
  · obtain ⟨j, hj, rfl⟩ := nI_of hc
    refine r_iload_n X d_Model_slot_4 (by rfl) ?_
    refine r_bipush X (x := (nI 8)) d_Model_slot_5 (by decide) ?_
    refine r_icmp_geN X d_Model_slot_7 (tgt := 14) (by decide) (by omega) (by omega) (fun hc => ?_) (fun hc => ?_)
    · refine r_iconst X (x := (nI 0)) d_Model_slot_14 (by decide) ?_
      exact hR _ _ _ _ d_Model_slot_15 (by decide) ⟨_, rfl, rfl, Or.inr ⟨rfl, fun ⟨k, hk, e⟩ => by have := (nI_eq hj (by omega)).mp e; omega⟩⟩
    · refine r_iconst X (x := (nI 1)) d_Model_slot_10 (by decide) ?_
      refine r_goto X d_Model_slot_11 (tgt := 15) (by decide) ?_
      exact hR _ _ _ _ d_Model_slot_15 (by decide) ⟨_, rfl, rfl, Or.inl ⟨rfl, j, hc, rfl⟩⟩
set_option maxHeartbeats 4000000 in
set_option maxRecDepth 100000 in
theorem m_residue {x : Int32} : CT (mkE l D cI cT) G y_Model_residue b_Model_residue 1 (some .boolean) 0 [.int x] S (Pi (fun S' r => S' = S ∧ ((r = nI 1 ∧ rs x) ∨ (r = nI 0 ∧ ¬ rs x)))) := by
  refine mk_i (by decide) (eok l D cI cT) (by simp [Value.category]) (Nat.le_of_ble_eq_true rfl) (fun J X hR => ?_)
  show J S 0 [some (.int x)] []
  refine r_iload_n X d_Model_residue_0 (by rfl) ?_
  refine r_if_lt X d_Model_residue_1 (tgt := 15) (by decide) (fun hc => ?_) (fun hc => ?_)
  · refine r_iconst X (x := (nI 0)) d_Model_residue_15 (by decide) ?_
    exact hR _ _ _ _ d_Model_residue_16 (by decide) ⟨_, rfl, rfl, Or.inr ⟨rfl, fun ⟨k, hk, e⟩ => nI_neg_no hc (by omega) e⟩⟩
  · obtain ⟨j, hj, rfl⟩ := nI_of hc
    refine r_iload_n X d_Model_residue_4 (by rfl) ?_
    refine r_sipush X (x := (nI 10007)) d_Model_residue_5 (by decide) ?_
    refine r_icmp_geN X d_Model_residue_8 (tgt := 15) (by decide) (by omega) (by omega) (fun hc => ?_) (fun hc => ?_)
    · refine r_iconst X (x := (nI 0)) d_Model_residue_15 (by decide) ?_
      exact hR _ _ _ _ d_Model_residue_16 (by decide) ⟨_, rfl, rfl, Or.inr ⟨rfl, fun ⟨k, hk, e⟩ => by have := (nI_eq hj (by omega)).mp e; omega⟩⟩
    · refine r_iconst X (x := (nI 1)) d_Model_residue_11 (by decide) ?_
      refine r_goto X d_Model_residue_12 (tgt := 16) (by decide) ?_
      exact hR _ _ _ _ d_Model_residue_16 (by decide) ⟨_, rfl, rfl, Or.inl ⟨rfl, j, hc, rfl⟩⟩
set_option maxHeartbeats 4000000 in
set_option maxRecDepth 100000 in
theorem m_place {x : Int32} : CT (mkE l D cI cT) G y_Model_place b_Model_place 1 (some .boolean) 0 [.int x] S (Pi (fun S' r => S' = S ∧ ((r = nI 1 ∧ plc x) ∨ (r = nI 0 ∧ ¬ plc x)))) := by
  refine mk_i (by decide) (eok l D cI cT) (by simp [Value.category]) (Nat.le_of_ble_eq_true rfl) (fun J X hR => ?_)
  show J S 0 [some (.int x)] []
  have e30 : (-30 : Int32).toInt = -30 := by decide
  have e1000 : (nI 1000).toInt = 1000 := by decide
  refine r_iload_n X d_Model_place_0 (by rfl) ?_
  refine r_bipush X (x := (-30)) d_Model_place_1 (by decide) ?_
  refine r_icmp_lt X d_Model_place_3 (tgt := 17) (by decide) (fun hc => ?_) (fun hc => ?_)
  · rw [Int32.lt_iff_toInt_lt, e30] at hc
    refine r_iconst X (x := (nI 0)) d_Model_place_17 (by decide) ?_
    exact hR _ _ _ _ d_Model_place_18 (by decide) ⟨_, rfl, rfl, Or.inr ⟨rfl, fun h => by have := h.1; omega⟩⟩
  · rw [Int32.lt_iff_toInt_lt, e30] at hc
    refine r_iload_n X d_Model_place_6 (by rfl) ?_
    refine r_sipush X (x := (nI 1000)) d_Model_place_7 (by decide) ?_
    refine r_icmp_gt X d_Model_place_10 (tgt := 17) (by decide) (fun hc2 => ?_) (fun hc2 => ?_)
    · rw [Int32.lt_iff_toInt_lt, e1000] at hc2
      refine r_iconst X (x := (nI 0)) d_Model_place_17 (by decide) ?_
      exact hR _ _ _ _ d_Model_place_18 (by decide) ⟨_, rfl, rfl, Or.inr ⟨rfl, fun h => by have := h.2; omega⟩⟩
    · rw [Int32.lt_iff_toInt_lt, e1000] at hc2
      refine r_iconst X (x := (nI 1)) d_Model_place_13 (by decide) ?_
      refine r_goto X d_Model_place_14 (tgt := 18) (by decide) ?_
      exact hR _ _ _ _ d_Model_place_18 (by decide) ⟨_, rfl, rfl, Or.inl ⟨rfl, by omega, by omega⟩⟩
set_option maxHeartbeats 4000000 in
set_option maxRecDepth 100000 in
theorem m_isZero {m s : Nat} {V : Vt} (hm : isM G m) (hs : s < 8) (hV : RepM S m V) (hw : wfV V) : CT (mkE l D cI cT) G y_Model_isZero b_Model_isZero 4 (some .boolean) 0 [.ref m, .int (nI s)] S (Pi (fun S' r => S' = S ∧ ((r = nI 1 ∧ tp (V s).1 32 = 0) ∨ (r = nI 0 ∧ 0 < tp (V s).1 32)))) := by
  obtain ⟨hM, hco, hex, hra, hpo, hbe, hwe, hro, hle, hva⟩ := hm
  have hNok := (hw s hs).1
  have hrep := (hV s hs).1
  refine mk_i (by decide) (eok l D cI cT) (by simp [Value.category]) (Nat.le_of_ble_eq_true rfl) (fun J X hR => ?_)
  show J S 0 [some (.ref m), some (.int (nI s)), none, none] []
  have loop : ∀ k i v, i + k = 32 → ((v = nI 1 ∧ ∀ j, j < i → (V s).1 j = 0) ∨ (v = nI 0 ∧ 0 < tp (V s).1 32)) → J S 4 [some (.ref m), some (.int (nI s)), some (.int v), some (.int (nI i))] [] := by
    intro k
    induction k with
    | zero =>
      intro i v hi hv
      refine r_iload_n X d_Model_isZero_4 (by rfl) ?_
      refine r_bipush X (x := (nI 32)) d_Model_isZero_5 (by decide) ?_
      refine r_icmp_geN X d_Model_isZero_7 (tgt := 40) (by decide) (by omega) (by omega) (fun hc => ?_) (fun hc => ?_)
      · refine r_iload_n X d_Model_isZero_40 (by rfl) ?_
        rcases hv with ⟨rfl, hv⟩ | ⟨rfl, hv⟩
        · exact hR _ _ _ _ d_Model_isZero_41 (by decide) ⟨_, rfl, rfl, Or.inl ⟨rfl, tp_eq (by omega) (fun j _ hj => hv j (by omega)) (fun h => absurd h (by omega))⟩⟩
        · exact hR _ _ _ _ d_Model_isZero_41 (by decide) ⟨_, rfl, rfl, Or.inr ⟨rfl, hv⟩⟩
      · omega
    | succ k ih =>
      intro i v hi hv
      have h7 := hNok.1 i
      have no : 0 < tp (V s).1 32 → J S 32 [some (.ref m), some (.int (nI s)), some (.int v), some (.int (nI i))] [] := by
        intro h
        refine r_iconst X (x := (nI 0)) d_Model_isZero_32 (by decide) ?_
        refine r_istore_n X d_Model_isZero_33 (by decide) ?_
        refine r_iincN X 1 d_Model_isZero_34 (by rfl) (by decide) (by decide) ?_
        refine r_goto X d_Model_isZero_37 (tgt := 4) (by decide) ?_
        exact ih (i + 1) _ (by omega) (Or.inr ⟨rfl, h⟩)
      refine r_iload_n X d_Model_isZero_4 (by rfl) ?_
      refine r_bipush X (x := (nI 32)) d_Model_isZero_5 (by decide) ?_
      refine r_icmp_geN X d_Model_isZero_7 (tgt := 40) (by decide) (by omega) (by omega) (fun hc => ?_) (fun hc => ?_)
      · omega
      · refine r_iload_n X d_Model_isZero_10 (by rfl) ?_
        rcases hv with ⟨rfl, hv⟩ | ⟨rfl, hv⟩
        · refine r_if_eqN X d_Model_isZero_11 (tgt := 32) (by decide) (by omega) (fun hc => ?_) (fun hc => ?_)
          · omega
          · refine r_aload_n X d_Model_isZero_14 (by rfl) ?_
            refine r_get X lf_Model_7 d_Model_isZero_15 (by assumption) (by rfl) ?_
            refine r_bipush X (x := (nI 32)) d_Model_isZero_18 (by decide) ?_
            refine r_iload_n X d_Model_isZero_20 (by rfl) ?_
            first | refine r_imulN X d_Model_isZero_21 ?_ | refine r_imul X d_Model_isZero_21 ?_
            refine r_iload_n X d_Model_isZero_22 (by rfl) ?_
            first | refine r_iaddN X d_Model_isZero_23 ?_ | refine r_iadd X d_Model_isZero_23 ?_
            refine r_iald X d_Model_isZero_24 (by assumption) (by omega) (by omega) ?_
            rw [hrep i (by omega)]
            refine r_if_neN X d_Model_isZero_25 (tgt := 32) (by decide) (by omega) (fun hc => ?_) (fun hc => ?_)
            · refine no ?_
              rcases Nat.eq_zero_or_pos (tp (V s).1 32) with h | h
              · exact absurd (tp_z (n := 32) (by omega) (by omega)) hc
              · exact h
            · refine r_iconst X (x := (nI 1)) d_Model_isZero_28 (by decide) ?_
              refine r_goto X d_Model_isZero_29 (tgt := 33) (by decide) ?_
              refine r_istore_n X d_Model_isZero_33 (by decide) ?_
              refine r_iincN X 1 d_Model_isZero_34 (by rfl) (by decide) (by decide) ?_
              refine r_goto X d_Model_isZero_37 (tgt := 4) (by decide) ?_
              refine ih (i + 1) _ (by omega) (Or.inl ⟨rfl, fun j hj => ?_⟩)
              by_cases h : j = i
              · rw [h]; exact hc
              · exact hv j (by omega)
        · refine r_if_eqN X d_Model_isZero_11 (tgt := 32) (by decide) (by omega) (fun hc => ?_) (fun hc => ?_)
          · exact no hv
          · omega
  refine r_iconst X (x := (nI 1)) d_Model_isZero_0 (by decide) ?_
  refine r_istore_n X d_Model_isZero_1 (by decide) ?_
  refine r_iconst X (x := (nI 0)) d_Model_isZero_2 (by decide) ?_
  refine r_istore_n X d_Model_isZero_3 (by decide) ?_
  exact loop 32 0 _ (by omega) (Or.inl ⟨rfl, fun j hj => absurd hj (by omega)⟩)
end M3
