section P2
variable {l : Launch} {D : va_G} {cI cT : ClassId} {G : Gm} {S : Sg}
theorem and1 {m : Nat} (h : m < 2 ^ 31) : nI m &&& nI 1 = nI (m % 2) := by
  have := pk_andN (n := m) (by omega) (m := nI 1) 1 (by decide)
  simpa using this
theorem shr1 {m : Nat} (h : m < 2 ^ 31) : nI m >>> (nI 1 &&& 31) = nI (m / 2) := by
  have := pk_shrN (n := m) h (nI 1 &&& 31) 1 (by decide)
  simpa using this
set_option maxHeartbeats 4000000 in
set_option maxRecDepth 100000 in
theorem c_raise {b n : Nat} (hb : b < 10007) (hn : n < 2 ^ 31) : CT (mkE l D cI cT) G y_Res_raise b_Res_raise 5 (some .int) 0 [.int (nI b), .int (nI n)] S (Pi (fun S' r => S' = S ∧ r = nI (pw b n))) := by
  refine mk_i (by decide) (eok l D cI cT) (by simp [Value.category]) (Nat.le_of_ble_eq_true rfl) (fun J X hR => ?_)
  show J S 0 [some (.int (nI b)), some (.int (nI n)), none, none, none] []
  have loop : ∀ fuel y f m, m < 2 ^ 31 → m < 2 ^ fuel → y < 10007 → f < 10007 → pwr fuel y f m = pw b n → J S 7 [some (.int (nI b)), some (.int (nI n)), some (.int (nI y)), some (.int (nI f)), some (.int (nI m))] [] := by
    intro fuel
    induction fuel with
    | zero =>
      intro y f m hm31 hm hy hf hr
      refine r_iload X d_Res_raise_7 (by rfl) ?_
      refine r_if_leN X d_Res_raise_9 (tgt := 45) (by decide) (by omega) (fun hc => ?_) (fun hc => ?_)
      · refine r_iload_n X d_Res_raise_45 (by rfl) ?_
        exact hR _ _ _ _ d_Res_raise_46 rfl ⟨_, rfl, rfl, by rw [← hr]; rfl⟩
      · omega
    | succ fuel ih =>
      intro y f m hm31 hm hy hf hr
      unfold pwr at hr
      refine r_iload X d_Res_raise_7 (by rfl) ?_
      refine r_if_leN X d_Res_raise_9 (tgt := 45) (by decide) (by omega) (fun hc => ?_) (fun hc => ?_)
      · rw [if_pos hc] at hr
        refine r_iload_n X d_Res_raise_45 (by rfl) ?_
        exact hR _ _ _ _ d_Res_raise_46 rfl ⟨_, rfl, rfl, by rw [hr]⟩
      · rw [if_neg (by omega)] at hr
        have hff := mul_bd hf hf
        have h28 : ∀ y', y' < 10007 → (y' = if m % 2 = 1 then y * f % 10007 else y) → J S 28 [some (.int (nI b)), some (.int (nI n)), some (.int (nI y')), some (.int (nI f)), some (.int (nI m))] [] := by
          intro y' hy' he
          refine r_iload_n X d_Res_raise_28 (by rfl) ?_
          refine r_iload_n X d_Res_raise_29 (by rfl) ?_
          first | refine r_imulN X d_Res_raise_30 ?_ | refine r_imul X d_Res_raise_30 ?_
          refine r_sipush X (x := (nI 10007)) d_Res_raise_31 (by decide) ?_
          refine r_iremN X d_Res_raise_34 (by decide) (by decide) (by omega) ?_
          refine r_istore_n X d_Res_raise_35 (by decide) ?_
          refine r_iload X d_Res_raise_36 (by rfl) ?_
          refine r_iconst X (x := (nI 1)) d_Res_raise_38 (by decide) ?_
          refine r_ishr X d_Res_raise_39 ?_
          refine r_int (shr1 hm31) ?_
          refine r_istore X d_Res_raise_40 (by decide) ?_
          refine r_goto X d_Res_raise_42 (tgt := 7) (by decide) ?_
          refine ih y' (f * f % 10007) (m / 2) (by omega) (by omega) hy' (Nat.mod_lt _ (by decide)) ?_
          rw [he]
          exact hr
        refine r_iload X d_Res_raise_12 (by rfl) ?_
        refine r_iconst X (x := (nI 1)) d_Res_raise_14 (by decide) ?_
        refine r_iand X d_Res_raise_15 ?_
        refine r_int (and1 hm31) ?_
        refine r_iconst X (x := (nI 1)) d_Res_raise_16 (by decide) ?_
        refine r_icmp_neN X d_Res_raise_17 (tgt := 28) (by decide) (by omega) (by omega) (fun hc => ?_) (fun hc => ?_)
        · exact h28 y hy (by rw [if_neg hc])
        · have hyf := mul_bd hy hf
          refine r_iload_n X d_Res_raise_20 (by rfl) ?_
          refine r_iload_n X d_Res_raise_21 (by rfl) ?_
          first | refine r_imulN X d_Res_raise_22 ?_ | refine r_imul X d_Res_raise_22 ?_
          refine r_sipush X (x := (nI 10007)) d_Res_raise_23 (by decide) ?_
          refine r_iremN X d_Res_raise_26 (by decide) (by decide) (by omega) ?_
          refine r_istore_n X d_Res_raise_27 (by decide) ?_
          exact h28 _ (Nat.mod_lt _ (by decide)) (by rw [if_pos hc])
  refine r_iconst X (x := (nI 1)) d_Res_raise_0 (by decide) ?_
  refine r_istore_n X d_Res_raise_1 (by decide) ?_
  refine r_iload_n X d_Res_raise_2 (by rfl) ?_
  refine r_istore_n X d_Res_raise_3 (by decide) ?_
  refine r_iload_n X d_Res_raise_4 (by rfl) ?_
  refine r_istore X d_Res_raise_5 (by decide) ?_
  exact loop 32 1 b n hn (by omega) (by decide) hb rfl
set_option maxHeartbeats 4000000 in
set_option maxRecDepth 100000 in
theorem c_invert {x : Nat} (hx : x < 10007) : CT (mkE l D cI cT) G y_Res_invert b_Res_invert 1 (some .int) 1 [.int (nI x)] S (Pi (fun S' r => S' = S ∧ r = nI (iv x))) := by
  refine mk_i (by decide) (eok l D cI cT) (by simp [Value.category]) (Nat.le_of_ble_eq_true rfl) (fun J X hR => ?_)
  show J S 0 [some (.int (nI x))] []
  refine r_iload_n X d_Res_invert_0 (by rfl) ?_
  refine r_sipush X (x := (nI 10005)) d_Res_invert_1 (by decide) ?_
  refine r_cSi X ls_Res_15 (c_raise (n := 10005) hx (by decide)) (by decide) rfl (Nat.le_of_ble_eq_true rfl) d_Res_invert_4 rfl (fun S1 r h1 => ?_)
  obtain ⟨rfl, rfl⟩ := h1
  exact hR _ _ _ _ d_Res_invert_7 rfl ⟨_, rfl, rfl, rfl⟩
theorem pw_lt {b n : Nat} : ∀ fuel y f m, y < 10007 → pwr fuel y f m < 10007 := by
  intro fuel
  induction fuel with
  | zero => intro y f m h; exact h
  | succ fuel ih =>
    intro y f m h
    unfold pwr
    split
    · exact h
    · refine ih _ _ _ ?_
      split
      · exact Nat.mod_lt _ (by decide)
      · exact h
theorem iv_lt (x : Nat) : iv x < 10007 := pw_lt (b := 0) (n := 0) 32 1 x 10005 (by decide)
theorem tp_two {f : Nat → Nat} {n n' : Nat} (h1 : ∀ i, n ≤ i → f i = 0) (h2 : ∀ i, n' ≤ i → f i = 0) : tp f n = tp f n' := by
  have a1 := tp_le f n
  rcases Nat.le_total n n' with h | h
  · rw [show n' = n + (n' - n) by omega, tp_more _ h1]
  · rw [show n = n' + (n - n') by omega, tp_more _ h2]
set_option maxHeartbeats 4000000 in
set_option maxRecDepth 100000 in
theorem c_pmatches {q n q' n' : Nat} {f g : Nat → Nat} (hp : isP G q n) (hp' : isP G q' n') (hf : okP n f) (hg : okP n' g) (hs : pIs S q n f) (hs' : pIs S q' n' g) : CT (mkE l D cI cT) G y_Poly_matches b_Poly_matches 3 (some .boolean) 0 [.ref q, .ref q'] S (Pi (fun S' r => S' = S ∧ ((r = nI 1 ∧ f = g) ∨ (r = nI 0 ∧ f ≠ g)))) := by
  obtain ⟨hq, ha, hn2, hnn⟩ := hp
  obtain ⟨hq', ha', hn2', hnn'⟩ := hp'
  obtain ⟨hs1, hs2⟩ := hs
  obtain ⟨hs1', hs2'⟩ := hs'
  have htp := tp_le f n
  have htp' := tp_le g n'
  refine mk_i (by decide) (eok l D cI cT) (by simp [Value.category]) (Nat.le_of_ble_eq_true rfl) (fun J X hR => ?_)
  show J S 0 [some (.ref q), some (.ref q'), none] []
  have loop : ∀ m i, i + m = tp f n → tp f n = tp g n' → (∀ j, j < i → f j = g j) → J S 15 [some (.ref q), some (.ref q'), some (.int (nI i))] [] := by
    intro m
    induction m with
    | zero =>
      intro i hi ht he
      refine r_iload_n X d_Poly_matches_15 (by rfl) ?_
      refine r_aload_n X d_Poly_matches_16 (by rfl) ?_
      refine r_get X lf_Poly_15 d_Poly_matches_17 (by assumption) (by rfl) ?_
      rw [hs2]
      refine r_icmp_gtT X d_Poly_matches_20 (tgt := 46) (by decide) (by omega) (by omega) (fun hc => ?_) (fun hc => ?_)
      · refine r_iconst X (x := (nI 1)) d_Poly_matches_46 (by decide) ?_
        refine hR _ _ _ _ d_Poly_matches_47 (by decide) ⟨_, rfl, rfl, Or.inl ⟨rfl, ?_⟩⟩
        funext j
        by_cases h : j < i
        · exact he j h
        · rw [hf.tz (by omega), hg.tz (by omega)]
      · omega
    | succ m ih =>
      intro i hi ht he
      refine r_iload_n X d_Poly_matches_15 (by rfl) ?_
      refine r_aload_n X d_Poly_matches_16 (by rfl) ?_
      refine r_get X lf_Poly_15 d_Poly_matches_17 (by assumption) (by rfl) ?_
      rw [hs2]
      refine r_icmp_gtT X d_Poly_matches_20 (tgt := 46) (by decide) (by omega) (by omega) (fun hc => ?_) (fun hc => ?_)
      · omega
      · have b1 := hf.1 i
        have b2 := hg.1 i
        refine r_aload_n X d_Poly_matches_23 (by rfl) ?_
        refine r_get X lf_Poly_9 d_Poly_matches_24 (by assumption) (by rfl) ?_
        refine r_iload_n X d_Poly_matches_27 (by rfl) ?_
        refine r_iald X d_Poly_matches_28 (by assumption) (by omega) (by omega) ?_
        refine r_aload_n X d_Poly_matches_29 (by rfl) ?_
        refine r_get X lf_Poly_9 d_Poly_matches_30 (by assumption) (by rfl) ?_
        refine r_iload_n X d_Poly_matches_33 (by rfl) ?_
        refine r_iald X d_Poly_matches_34 (by assumption) (by omega) (by omega) ?_
        rw [hs1, hs1']
        refine r_icmp_eqN X d_Poly_matches_35 (tgt := 40) (by decide) (by omega) (by omega) (fun hc => ?_) (fun hc => ?_)
        · refine r_iincN X 1 d_Poly_matches_40 (by rfl) (by decide) (by decide) ?_
          refine r_goto X d_Poly_matches_43 (tgt := 15) (by decide) ?_
          refine ih (i + 1) (by omega) ht (fun j hj => ?_)
          by_cases h : j = i
          · rw [h]; exact hc
          · exact he j (by omega)
        · refine r_iconst X (x := (nI 0)) d_Poly_matches_38 (by decide) ?_
          refine hR _ _ _ _ d_Poly_matches_39 (by decide) ⟨_, rfl, rfl, Or.inr ⟨rfl, fun z => hc (by rw [z])⟩⟩
  refine r_aload_n X d_Poly_matches_0 (by rfl) ?_
  refine r_get X lf_Poly_15 d_Poly_matches_1 (by assumption) (by rfl) ?_
  refine r_aload_n X d_Poly_matches_4 (by rfl) ?_
  refine r_get X lf_Poly_15 d_Poly_matches_5 (by assumption) (by rfl) ?_
  rw [hs2, hs2']
  refine r_icmp_eqT X d_Poly_matches_8 (tgt := 13) (by decide) (by omega) (by omega) (fun hc => ?_) (fun hc => ?_)
  · refine r_iconst X (x := (nI 0)) d_Poly_matches_13 (by decide) ?_
    refine r_istore_n X d_Poly_matches_14 (by decide) ?_
    exact loop (tp f n) 0 (by omega) hc (fun j hj => by omega)
  · refine r_iconst X (x := (nI 0)) d_Poly_matches_11 (by decide) ?_
    refine hR _ _ _ _ d_Poly_matches_12 (by decide) ⟨_, rfl, rfl, Or.inr ⟨rfl, fun z => hc ?_⟩⟩
    subst z
    exact tp_two hf.2 hg.2
def scl (c : Nat) (f : Nat → Nat) : Nat → Nat := fun i => f i * c % 10007
theorem scl_ok {n c : Nat} {f : Nat → Nat} (h : okP n f) : okP n (scl c f) := ⟨fun i => Nat.mod_lt _ (by decide), fun i hi => by unfold scl; rw [h.2 i hi]; simp⟩
set_option maxHeartbeats 4000000 in
set_option maxRecDepth 100000 in
theorem c_scale {q n c : Nat} {f : Nat → Nat} (hp : isP G q n) (hf : okP n f) (hs : pIs S q n f) (hc7 : c < 10007) : CT (mkE l D cI cT) G y_Poly_scale b_Poly_scale 3 none 1 [.ref q, .int (nI c)] S (Pv (fun S' => pIs S' q n (scl c f) ∧ Out S S' q 2)) := by
  have hp0 := hp
  obtain ⟨hq, ha, hn2, hnn⟩ := hp
  obtain ⟨hs1, hs2⟩ := hs
  have htp := tp_le f n
  refine mk_v (by decide) (eok l D cI cT) (by simp [Value.category]) (Nat.le_of_ble_eq_true rfl) (fun J X hR => ?_)
  show J S 0 [some (.ref q), some (.int (nI c)), none] []
  have loop : ∀ m i S1, i + m = tp f n → S1 = arS S (q + 1) (fun j => if j < i then scl c f j else f j) → J S1 2 [some (.ref q), some (.int (nI c)), some (.int (nI i))] [] := by
    intro m
    induction m with
    | zero =>
      intro i S1 hi hS
      have e2 : S1.2 q = tI (tp f n) := by rw [hS]; exact hs2
      refine r_iload_n X d_Poly_scale_2 (by rfl) ?_
      refine r_aload_n X d_Poly_scale_3 (by rfl) ?_
      refine r_get X lf_Poly_15 d_Poly_scale_4 (by assumption) (by rfl) ?_
      rw [e2]
      refine r_icmp_gtT X d_Poly_scale_7 (tgt := 34) (by decide) (by omega) (by omega) (fun hc => ?_) (fun hc => ?_)
      · refine r_aload_n X d_Poly_scale_34 (by rfl) ?_
        have e3 : S1.1 (q + 1) = scl c f := by
          rw [hS, arS_1]
          funext j
          split
          · rfl
          · unfold scl
            rw [hf.tz (by omega)]
            simp
        refine r_cVv X lv_Poly_28 (c_trim hp0 (fun i _ => by rw [e3]; exact (scl_ok hf).1 i)) (by assumption) (by decide) rfl (Nat.le_of_ble_eq_true rfl) d_Poly_scale_35 rfl (fun S3 h3 => ?_)
        subst h3
        refine hR _ _ _ d_Poly_scale_38 ⟨rfl, pIs_trim e3, ?_⟩
        rw [hS]
        exact (Out.ar (by omega) (by omega)).trans (Out.fd (by omega) (by omega))
      · omega
    | succ m ih =>
      intro i S1 hi hS
      have e2 : S1.2 q = tI (tp f n) := by rw [hS]; exact hs2
      have e1 : S1.1 (q + 1) i = f i := by rw [hS, arS_1, if_neg (by omega)]
      refine r_iload_n X d_Poly_scale_2 (by rfl) ?_
      refine r_aload_n X d_Poly_scale_3 (by rfl) ?_
      refine r_get X lf_Poly_15 d_Poly_scale_4 (by assumption) (by rfl) ?_
      rw [e2]
      refine r_icmp_gtT X d_Poly_scale_7 (tgt := 34) (by decide) (by omega) (by omega) (fun hc => ?_) (fun hc => ?_)
      · omega
      · have b1 := hf.1 i
        have hm := mul_bd b1 hc7
        refine r_aload_n X d_Poly_scale_10 (by rfl) ?_
        refine r_get X lf_Poly_9 d_Poly_scale_11 (by assumption) (by rfl) ?_
        refine r_iload_n X d_Poly_scale_14 (by rfl) ?_
        refine r_aload_n X d_Poly_scale_15 (by rfl) ?_
        refine r_get X lf_Poly_9 d_Poly_scale_16 (by assumption) (by rfl) ?_
        refine r_iload_n X d_Poly_scale_19 (by rfl) ?_
        refine r_iald X d_Poly_scale_20 (by assumption) (by omega) (by omega) ?_
        rw [e1]
        refine r_iload_n X d_Poly_scale_21 (by rfl) ?_
        first | refine r_imulN X d_Poly_scale_22 ?_ | refine r_imul X d_Poly_scale_22 ?_
        refine r_sipush X (x := (nI 10007)) d_Poly_scale_23 (by decide) ?_
        refine r_iremN X d_Poly_scale_26 (by decide) (by decide) (by omega) ?_
        refine r_iast X d_Poly_scale_27 (by assumption) (by omega) (by omega) ?_
        refine r_iincN X 1 d_Poly_scale_28 (by rfl) (by decide) (by decide) ?_
        refine r_goto X d_Poly_scale_31 (tgt := 2) (by decide) ?_
        refine ih (i + 1) _ (by omega) ?_
        rw [hS, arS_arS, arS_1]
        congr 1
        exact up_lt (scl c f) f i
  refine r_iconst X (x := (nI 0)) d_Poly_scale_0 (by decide) ?_
  refine r_istore_n X d_Poly_scale_1 (by decide) ?_
  refine loop (tp f n) 0 _ (by omega) ?_
  rw [if_lt0 (scl c f), ← hs1, arS_id]
def ads (n c : Nat) (f g : Nat → Nat) : Nat → Nat := fun i => if i < n then (f i + g i * c) % 10007 else 0
theorem ads_ok (n c : Nat) (f g : Nat → Nat) : okP n (ads n c f g) := by
  refine ⟨fun i => ?_, fun i hi => ?_⟩
  · unfold ads
    split
    · exact Nat.mod_lt _ (by decide)
    · decide
  · unfold ads
    rw [if_neg (by omega)]
set_option maxHeartbeats 4000000 in
set_option maxRecDepth 100000 in
theorem c_addScaled {q n q' n' c : Nat} {f g : Nat → Nat} (hp : isP G q n) (hp' : isP G q' n') (hne : q ≠ q') (hf : okP n f) (hg : okP n' g) (hs : S.1 (q + 1) = f) (hs' : S.1 (q' + 1) = g) (hc7 : c < 10007) : CT (mkE l D cI cT) G y_Poly_addScaled b_Poly_addScaled 5 none 1 [.ref q, .ref q', .int (nI c)] S (Pv (fun S' => pIs S' q n (ads n c f g) ∧ Out S S' q 2)) := by
  have hp0 := hp
  obtain ⟨hq, ha, hn2, hnn⟩ := hp
  obtain ⟨hq', ha', hn2', hnn'⟩ := hp'
  refine mk_v (by decide) (eok l D cI cT) (by simp [Value.category]) (Nat.le_of_ble_eq_true rfl) (fun J X hR => ?_)
  show J S 0 [some (.ref q), some (.ref q'), some (.int (nI c)), none, none] []
  have loop : ∀ m i S1, i + m = min n n' → S1 = arS S (q + 1) (fun j => if j < i then ads n c f g j else f j) → J S1 17 [some (.ref q), some (.ref q'), some (.int (nI c)), some (.int (nI (min n n'))), some (.int (nI i))] [] := by
    intro m
    induction m with
    | zero =>
      intro i S1 hi hS
      refine r_iload X d_Poly_addScaled_17 (by rfl) ?_
      refine r_iload_n X d_Poly_addScaled_19 (by rfl) ?_
      refine r_icmp_geN X d_Poly_addScaled_20 (tgt := 57) (by decide) (by omega) (by omega) (fun hc => ?_) (fun hc => ?_)
      · refine r_aload_n X d_Poly_addScaled_57 (by rfl) ?_
        have e3 : S1.1 (q + 1) = ads n c f g := by
          rw [hS, arS_1]
          funext j
          split
          · rfl
          · unfold ads
            by_cases h : j < n
            · have := hf.1 j
              rw [if_pos h, hg.2 j (by omega)]
              simp
              omega
            · rw [if_neg h, hf.2 j (by omega)]
        refine r_cVv X lv_Poly_28 (c_trim hp0 (fun i _ => by rw [e3]; exact (ads_ok n c f g).1 i)) (by assumption) (by decide) rfl (Nat.le_of_ble_eq_true rfl) d_Poly_addScaled_58 rfl (fun S3 h3 => ?_)
        subst h3
        refine hR _ _ _ d_Poly_addScaled_61 ⟨rfl, pIs_trim e3, ?_⟩
        rw [hS]
        exact (Out.ar (by omega) (by omega)).trans (Out.fd (by omega) (by omega))
      · omega
    | succ m ih =>
      intro i S1 hi hS
      have e1 : S1.1 (q + 1) i = f i := by rw [hS, arS_1, if_neg (by omega)]
      have e1' : S1.1 (q' + 1) i = g i := by rw [hS, arS_1n (by omega), hs']
      refine r_iload X d_Poly_addScaled_17 (by rfl) ?_
      refine r_iload_n X d_Poly_addScaled_19 (by rfl) ?_
      refine r_icmp_geN X d_Poly_addScaled_20 (tgt := 57) (by decide) (by omega) (by omega) (fun hc => ?_) (fun hc => ?_)
      · omega
      · have b1 := hf.1 i
        have b2 := hg.1 i
        have hm := mul_bd b2 hc7
        refine r_aload_n X d_Poly_addScaled_23 (by rfl) ?_
        refine r_get X lf_Poly_9 d_Poly_addScaled_24 (by assumption) (by rfl) ?_
        refine r_iload X d_Poly_addScaled_27 (by rfl) ?_
        refine r_aload_n X d_Poly_addScaled_29 (by rfl) ?_
        refine r_get X lf_Poly_9 d_Poly_addScaled_30 (by assumption) (by rfl) ?_
        refine r_iload X d_Poly_addScaled_33 (by rfl) ?_
        refine r_iald X d_Poly_addScaled_35 (by assumption) (by omega) (by omega) ?_
        refine r_aload_n X d_Poly_addScaled_36 (by rfl) ?_
        refine r_get X lf_Poly_9 d_Poly_addScaled_37 (by assumption) (by rfl) ?_
        refine r_iload X d_Poly_addScaled_40 (by rfl) ?_
        refine r_iald X d_Poly_addScaled_42 (by assumption) (by omega) (by omega) ?_
        rw [e1, e1']
        refine r_iload_n X d_Poly_addScaled_43 (by rfl) ?_
        first | refine r_imulN X d_Poly_addScaled_44 ?_ | refine r_imul X d_Poly_addScaled_44 ?_
        first | refine r_iaddN X d_Poly_addScaled_45 ?_ | refine r_iadd X d_Poly_addScaled_45 ?_
        refine r_sipush X (x := (nI 10007)) d_Poly_addScaled_46 (by decide) ?_
        refine r_iremN X d_Poly_addScaled_49 (by decide) (by decide) (by omega) ?_
        refine r_iast X d_Poly_addScaled_50 (by assumption) (by omega) (by omega) ?_
        refine r_iincN X 1 d_Poly_addScaled_51 (by rfl) (by decide) (by decide) ?_
        refine r_goto X d_Poly_addScaled_54 (tgt := 17) (by decide) ?_
        refine ih (i + 1) _ (by omega) ?_
        rw [hS, arS_arS, arS_1, ← up_lt (ads n c f g) f i]
        congr 2
        unfold ads
        rw [if_pos (by omega)]
  refine r_aload_n X d_Poly_addScaled_0 (by rfl) ?_
  refine r_get X lf_Poly_9 d_Poly_addScaled_1 (by assumption) (by rfl) ?_
  refine r_alen X d_Poly_addScaled_4 (by assumption) ?_
  refine r_aload_n X d_Poly_addScaled_5 (by rfl) ?_
  refine r_get X lf_Poly_9 d_Poly_addScaled_6 (by assumption) (by rfl) ?_
  refine r_alen X d_Poly_addScaled_9 (by assumption) ?_
  refine r_mminN X lm_Poly_31 (by decide) (Nat.le_of_ble_eq_true rfl) (by omega) (by omega) d_Poly_addScaled_10 ?_
  refine r_istore_n X d_Poly_addScaled_13 (by decide) ?_
  refine r_iconst X (x := (nI 0)) d_Poly_addScaled_14 (by decide) ?_
  refine r_istore X d_Poly_addScaled_15 (by decide) ?_
  refine loop (min n n') 0 _ (by omega) ?_
  rw [if_lt0 (ads n c f g), ← hs, arS_id]
set_option maxHeartbeats 4000000 in
set_option maxRecDepth 100000 in
theorem c_divideBy {q n b : Nat} {f : Nat → Nat} (hp : isP G q n) (hf : okP n f) (hs : pIs S q n f) (hb7 : b < 10007) : CT (mkE l D cI cT) G y_Poly_divideBy b_Poly_divideBy 6 (some .int) 2 [.ref q, .int (nI b)] S (Pi (fun S' r => (pIs S' q n (dq n ((10007 - b) % 10007) f) ∧ Out S S' q 2) ∧ r = nI (hn f ((10007 - b) % 10007) n 0))) := by
  have hp0 := hp
  obtain ⟨hq, ha, hn2, hnn⟩ := hp
  obtain ⟨hs1, hs2⟩ := hs
  have htp := tp_le f n
  refine mk_i (by decide) (eok l D cI cT) (by simp [Value.category]) (Nat.le_of_ble_eq_true rfl) (fun J X hR => ?_)
  show J S 0 [some (.ref q), some (.int (nI b)), none, none, none, none] []
  generalize hr7 : (10007 - b) % 10007 = r at *
  have hr : r < 10007 := by omega
  have loop : ∀ t y v S1, t ≤ n → y = hn f r (n - t) t → S1 = arS S (q + 1) (fun j => if t ≤ j then dq n r f j else f j) → J S1 14 [some (.ref q), some (.int (nI b)), some (.int (nI r)), some (.int (nI y)), some (.int (tI t)), v] [] := by
    intro t
    induction t with
    | zero =>
      intro y v S1 ht hy hS
      refine r_iload X d_Poly_divideBy_14 (by rfl) ?_
      refine r_if_ltT X d_Poly_divideBy_16 (tgt := 53) (by decide) (by omega) (fun hc => ?_) (fun u hc => ?_)
      · refine r_aload_n X d_Poly_divideBy_53 (by rfl) ?_
        have e3 : S1.1 (q + 1) = dq n r f := by
          rw [hS, arS_1]
          funext j
          rw [if_pos (by omega)]
        refine r_cVv X lv_Poly_28 (c_trim hp0 (fun i _ => by rw [e3]; exact (dq_ok n r f).1 i)) (by assumption) (by decide) rfl (Nat.le_of_ble_eq_true rfl) d_Poly_divideBy_54 rfl (fun S3 h3 => ?_)
        subst h3
        refine r_iload_n X d_Poly_divideBy_57 (by rfl) ?_
        refine hR _ _ _ _ d_Poly_divideBy_58 rfl ⟨_, rfl, ⟨pIs_trim e3, ?_⟩, by rw [hy]; rfl⟩
        rw [hS]
        exact (Out.ar (by omega) (by omega)).trans (Out.fd (by omega) (by omega))
      · omega
    | succ t ih =>
      intro y v S1 ht hy hS
      refine r_iload X d_Poly_divideBy_14 (by rfl) ?_
      refine r_if_ltT X d_Poly_divideBy_16 (tgt := 53) (by decide) (by omega) (fun hc => ?_) (fun u hc => ?_)
      · omega
      · rw [tI_s]
        have e1 : S1.1 (q + 1) t = f t := by rw [hS, arS_1, if_neg (by omega)]
        have hy7 : y < 10007 := by rw [hy]; exact hn_lt _ _ _ _
        have hm := mul_bd hy7 hr
        have hft := hf.1 t
        refine r_iload_n X d_Poly_divideBy_19 (by rfl) ?_
        refine r_iload_n X d_Poly_divideBy_20 (by rfl) ?_
        first | refine r_imulN X d_Poly_divideBy_21 ?_ | refine r_imul X d_Poly_divideBy_21 ?_
        refine r_aload_n X d_Poly_divideBy_22 (by rfl) ?_
        refine r_get X lf_Poly_9 d_Poly_divideBy_23 (by assumption) (by rfl) ?_
        refine r_iload X d_Poly_divideBy_26 (by rfl) ?_
        refine r_iald X d_Poly_divideBy_28 (by assumption) (by omega) (by omega) ?_
        rw [e1]
        first | refine r_iaddN X d_Poly_divideBy_29 ?_ | refine r_iadd X d_Poly_divideBy_29 ?_
        refine r_sipush X (x := (nI 10007)) d_Poly_divideBy_30 (by decide) ?_
        refine r_iremN X d_Poly_divideBy_33 (by decide) (by decide) (by omega) ?_
        refine r_istore X d_Poly_divideBy_34 (by decide) ?_
        refine r_aload_n X d_Poly_divideBy_36 (by rfl) ?_
        refine r_get X lf_Poly_9 d_Poly_divideBy_37 (by assumption) (by rfl) ?_
        refine r_iload X d_Poly_divideBy_40 (by rfl) ?_
        refine r_iload_n X d_Poly_divideBy_42 (by rfl) ?_
        refine r_iast X d_Poly_divideBy_43 (by assumption) (by omega) (by omega) ?_
        refine r_iload X d_Poly_divideBy_44 (by rfl) ?_
        refine r_istore_n X d_Poly_divideBy_46 (by decide) ?_
        refine r_iincD X d_Poly_divideBy_47 (by rfl) (by decide) ?_
        refine r_goto X d_Poly_divideBy_50 (tgt := 14) (by decide) ?_
        refine ih _ _ _ (by omega) ?_ ?_
        · rw [show n - t = (n - (t + 1)) + 1 by omega]
          show _ = (hn f r (n - (t + 1)) (t + 1) * r + f t) % 10007
          rw [← hy]
        · rw [hS, arS_arS, arS_1, ← up_ge (dq n r f) f t, hy]
          rfl
  refine r_iload_n X d_Poly_divideBy_0 (by rfl) ?_
  refine r_ineg X d_Poly_divideBy_1 ?_
  refine r_cSi X ls_Poly_37 c_of (by decide) rfl (Nat.le_of_ble_eq_true rfl) d_Poly_divideBy_2 rfl (fun S1 x h1 => ?_)
  obtain ⟨rfl, rfl⟩ := h1
  rw [em_neg hb7, hr7]
  refine r_istore_n X d_Poly_divideBy_5 (by decide) ?_
  refine r_iconst X (x := (nI 0)) d_Poly_divideBy_6 (by decide) ?_
  refine r_istore_n X d_Poly_divideBy_7 (by decide) ?_
  refine r_aload_n X d_Poly_divideBy_8 (by rfl) ?_
  refine r_get X lf_Poly_15 d_Poly_divideBy_9 (by assumption) (by rfl) ?_
  refine r_int hs2 ?_
  refine r_istore X d_Poly_divideBy_12 (by decide) ?_
  refine loop (tp f n) 0 _ _ htp ?_ ?_
  · rw [hn_0 (fun j hj => hf.tz hj)]
  · rw [show (fun j => if tp f n ≤ j then dq n r f j else f j) = f by
      funext j
      split
      · next h =>
        rw [hf.tz h]
        unfold dq
        exact hn_0 (fun i hi => hf.tz (by omega))
      · rfl, ← hs1, arS_id]
end P2
