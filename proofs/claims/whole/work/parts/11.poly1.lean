section P1
variable {l : Launch} {D : va_G} {cI cT : ClassId} {G : Gm} {S : Sg}
set_option maxHeartbeats 4000000 in
set_option maxRecDepth 100000 in
theorem c_floorMod {x : Int32} : CT (mkE l D cI cT) G y_Math_floorMod b_Math_floorMod 3 (some .int) 0 [.int x, .int (nI 10007)] S (Pi (fun S' r => S' = S ∧ r = nI (em x))) := by
  refine mk_iF (by decide +kernel) (eok l D cI cT) (by simp [Value.category]) (Nat.le_of_ble_eq_true rfl) (fun J X hR => ?_)
  show J S 0 [some (.int x), some (.int (nI 10007)), none] []
  have hm := rem_cases x
  refine r_iload_n X d_Math_floorMod_0 (by rfl) ?_
  refine r_iload_n X d_Math_floorMod_1 (by rfl) ?_
  refine r_irem X d_Math_floorMod_2 (by decide) ?_
  refine r_istore_n X d_Math_floorMod_3 (by decide) ?_
  refine r_iload_n X d_Math_floorMod_4 (by rfl) ?_
  refine r_iload_n X d_Math_floorMod_5 (by rfl) ?_
  refine r_ixor X d_Math_floorMod_6 ?_
  refine r_if_ge X d_Math_floorMod_7 (tgt := 18) (by decide) (fun hc => ?_) (fun hc => ?_)
  · refine r_iload_n X d_Math_floorMod_18 (by rfl) ?_
    exact hR _ _ _ _ d_Math_floorMod_19 rfl ⟨_, rfl, rfl, hm.2 (Or.inl (Int32.not_lt.mpr hc))⟩
  · have hc := Int32.not_le.mp hc
    refine r_iload_n X d_Math_floorMod_10 (by rfl) ?_
    refine r_if_eq X d_Math_floorMod_11 (tgt := 18) (by decide) (fun hc2 => ?_) (fun hc2 => ?_)
    · refine r_iload_n X d_Math_floorMod_18 (by rfl) ?_
      exact hR _ _ _ _ d_Math_floorMod_19 rfl ⟨_, rfl, rfl, hm.2 (Or.inr hc2)⟩
    · refine r_iload_n X d_Math_floorMod_14 (by rfl) ?_
      refine r_iload_n X d_Math_floorMod_15 (by rfl) ?_
      refine r_iadd X d_Math_floorMod_16 ?_
      exact hR _ _ _ _ d_Math_floorMod_17 rfl ⟨_, rfl, rfl, hm.1 hc hc2⟩
set_option maxHeartbeats 4000000 in
set_option maxRecDepth 100000 in
theorem c_of {x : Int32} : CT (mkE l D cI cT) G y_Res_of b_Res_of 1 (some .int) 1 [.int x] S (Pi (fun S' r => S' = S ∧ r = nI (em x))) := by
  refine mk_i (by decide) (eok l D cI cT) (by simp [Value.category]) (Nat.le_of_ble_eq_true rfl) (fun J X hR => ?_)
  show J S 0 [some (.int x)] []
  refine r_iload_n X d_Res_of_0 (by rfl) ?_
  refine r_sipush X (x := (nI 10007)) d_Res_of_1 (by decide) ?_
  refine r_cSi X ls_Res_9 c_floorMod (by decide) rfl (Nat.le_of_ble_eq_true rfl) d_Res_of_4 rfl (fun S1 r h1 => ?_)
  obtain ⟨rfl, rfl⟩ := h1
  exact hR _ _ _ _ d_Res_of_7 rfl ⟨_, rfl, rfl, rfl⟩
set_option maxHeartbeats 4000000 in
set_option maxRecDepth 100000 in
theorem c_fill {a n v : Nat} (ha : G a = some (kArr n)) (hn : n < 100000) : CT (mkE l D cI cT) G y_Arr_fill b_Arr_fill 4 none 0 [.ref a, .int (nI v)] S (Pv (fun S' => S' = arS S a (fun i => if i < n then v else 0))) := by
  refine mk_v (by decide) (eok l D cI cT) (by simp [Value.category]) (Nat.le_of_ble_eq_true rfl) (fun J X hR => ?_)
  show J S 0 [some (.ref a), some (.int (nI v)), none, none] []
  have loop : ∀ m i S1, i + m = n → S1 = arS S a (fun j => if j < i then v else S.1 a j) → J S1 5 [some (.ref a), some (.int (nI v)), some (.int (nI i)), some (.int (nI n))] [] := by
    intro m
    induction m with
    | zero =>
      intro i S1 hi hS
      refine r_iload_n X d_Arr_fill_5 (by rfl) ?_
      refine r_iload_n X d_Arr_fill_6 (by rfl) ?_
      refine r_icmp_geN X d_Arr_fill_7 (tgt := 20) (by decide) (by omega) (by omega) (fun hc => ?_) (fun hc => ?_)
      · refine r_trunc X (f := fun j => if j < n then v else 0) ha (fun j hj => ?_) ?_
        · rw [hS, arS_1, if_pos hj, if_pos (by omega)]
        · exact hR _ _ _ d_Arr_fill_20 ⟨rfl, by rw [hS, arS_arS]⟩
      · omega
    | succ m ih =>
      intro i S1 hi hS
      refine r_iload_n X d_Arr_fill_5 (by rfl) ?_
      refine r_iload_n X d_Arr_fill_6 (by rfl) ?_
      refine r_icmp_geN X d_Arr_fill_7 (tgt := 20) (by decide) (by omega) (by omega) (fun hc => ?_) (fun hc => ?_)
      · omega
      · refine r_aload_n X d_Arr_fill_10 (by rfl) ?_
        refine r_iload_n X d_Arr_fill_11 (by rfl) ?_
        refine r_iload_n X d_Arr_fill_12 (by rfl) ?_
        refine r_iast X d_Arr_fill_13 (by assumption) (by omega) (by omega) ?_
        refine r_iincN X 1 d_Arr_fill_14 (by rfl) (by decide) (by decide) ?_
        refine r_goto X d_Arr_fill_17 (tgt := 5) (by decide) ?_
        refine ih (i + 1) _ (by omega) ?_
        rw [hS, arS_arS, arS_1, up_lt (fun _ => v)]
  refine r_iconst X (x := (nI 0)) d_Arr_fill_0 (by decide) ?_
  refine r_istore_n X d_Arr_fill_1 (by decide) ?_
  refine r_aload_n X d_Arr_fill_2 (by rfl) ?_
  refine r_alen X d_Arr_fill_3 (by assumption) ?_
  refine r_istore_n X d_Arr_fill_4 (by decide) ?_
  refine loop n 0 _ (by omega) ?_
  rw [if_lt0 (fun _ => v), arS_id]
set_option maxHeartbeats 4000000 in
set_option maxRecDepth 100000 in
theorem c_trim {q n : Nat} (hp : isP G q n) (hf : ∀ i, i < n → S.1 (q + 1) i < 10007) : CT (mkE l D cI cT) G y_Poly_trim b_Poly_trim 1 none 0 [.ref q] S (Pv (fun S' => S' = fdS S q (tI (tp (S.1 (q + 1)) n)))) := by
  obtain ⟨hq, ha, hn2, hn⟩ := hp
  refine mk_v (by decide) (eok l D cI cT) (by simp [Value.category]) (Nat.le_of_ble_eq_true rfl) (fun J X hR => ?_)
  show J S 0 [some (.ref q)] []
  have loop : ∀ t S1, t ≤ n → S1 = fdS S q (tI t) → tp (S.1 (q + 1)) t = tp (S.1 (q + 1)) n → J S1 11 [some (.ref q)] [] := by
    intro t
    induction t with
    | zero =>
      intro S1 ht hS ht2
      have e2 : S1.2 q = tI 0 := by rw [hS, fdS_2]
      refine r_aload_n X d_Poly_trim_11 (by rfl) ?_
      refine r_get X lf_Poly_15 d_Poly_trim_12 (by assumption) (by rfl) ?_
      refine r_if_lt X d_Poly_trim_15 (tgt := 43) (by decide) (fun hc => ?_) (fun hc => ?_)
      · refine hR _ _ _ d_Poly_trim_43 ⟨rfl, ?_⟩
        rw [hS, ← ht2]
        rfl
      · exact absurd (by rw [e2]; exact tI_0) hc
    | succ t ih =>
      intro S1 ht hS ht2
      have e2 : S1.2 q = nI t := by rw [hS, fdS_2, tI_s]
      have e1 : S1.1 = S.1 := by rw [hS]; rfl
      refine r_aload_n X d_Poly_trim_11 (by rfl) ?_
      refine r_get X lf_Poly_15 d_Poly_trim_12 (by assumption) (by rfl) ?_
      refine r_if_lt X d_Poly_trim_15 (tgt := 43) (by decide) (fun hc => ?_) (fun hc => ?_)
      · rw [e2] at hc
        exact absurd hc (nI_pos (by omega))
      · refine r_aload_n X d_Poly_trim_18 (by rfl) ?_
        refine r_get X lf_Poly_9 d_Poly_trim_19 (by assumption) (by rfl) ?_
        refine r_aload_n X d_Poly_trim_22 (by rfl) ?_
        refine r_get X lf_Poly_15 d_Poly_trim_23 (by assumption) (by rfl) ?_
        refine r_int e2 ?_
        refine r_iald X d_Poly_trim_26 (by assumption) (by omega) (by omega) ?_
        rw [e1]
        have hb := hf t (by omega)
        refine r_if_neN X d_Poly_trim_27 (tgt := 43) (by decide) (by omega) (fun hc => ?_) (fun hc => ?_)
        · refine hR _ _ _ d_Poly_trim_43 ⟨rfl, ?_⟩
          rw [hS, ← ht2]
          unfold tp
          rw [if_neg hc]
        · refine r_aload_n X d_Poly_trim_30 (by rfl) ?_
          refine r_dup X d_Poly_trim_31 (by rfl) ?_
          refine r_get X lf_Poly_15 d_Poly_trim_32 (by assumption) (by rfl) ?_
          refine r_iconst X (x := (nI 1)) d_Poly_trim_35 (by decide) ?_
          first | refine r_isubN X d_Poly_trim_36 (by omega) ?_ | refine r_isub X d_Poly_trim_36 ?_
          refine r_put X lp_Poly_15 d_Poly_trim_37 (by assumption) (by rfl) (Nat.le_of_ble_eq_true rfl) ?_
          refine r_goto X d_Poly_trim_40 (tgt := 11) (by decide) ?_
          refine ih _ (by omega) ?_ ?_
          · rw [e2, hS, fdS_fdS]
            rfl
          · rw [← ht2]
            conv => rhs; unfold tp
            rw [if_pos hc]
  refine r_aload_n X d_Poly_trim_0 (by rfl) ?_
  refine r_aload_n X d_Poly_trim_1 (by rfl) ?_
  refine r_get X lf_Poly_9 d_Poly_trim_2 (by assumption) (by rfl) ?_
  refine r_alen X d_Poly_trim_5 (by assumption) ?_
  refine r_iconst X (x := (nI 1)) d_Poly_trim_6 (by decide) ?_
  first | refine r_isubN X d_Poly_trim_7 (by omega) ?_ | refine r_isub X d_Poly_trim_7 ?_
  refine r_put X lp_Poly_15 d_Poly_trim_8 (by assumption) (by rfl) (Nat.le_of_ble_eq_true rfl) ?_
  refine loop n _ (Nat.le_refl _) ?_ rfl
  have e : tI n = nI (n - 1) := by rw [← tI_s, show n - 1 + 1 = n by omega]
  rw [e]
theorem cut_ok (n : Nat) {g : Nat → Nat} (h : ∀ i, g i < 10007) : okP n (cut n g) := by
  refine ⟨fun i => ?_, fun i hi => ?_⟩
  · unfold cut
    split
    · exact h i
    · omega
  · unfold cut
    rw [if_neg (by omega)]
theorem pIs_trim {q n : Nat} {S1 : Sg} {f : Nat → Nat} (h : S1.1 (q + 1) = f) : pIs (fdS S1 q (tI (tp (S1.1 (q + 1)) n))) q n f := ⟨h, by rw [fdS_2, h]⟩
set_option maxHeartbeats 4000000 in
set_option maxRecDepth 100000 in
theorem c_clear {q n : Nat} (hp : isP G q n) : CT (mkE l D cI cT) G y_Poly_clear b_Poly_clear 1 none 1 [.ref q] S (Pv (fun S' => pIs S' q n (fun _ => 0) ∧ Out S S' q 2)) := by
  obtain ⟨hq, ha, hn2, hn⟩ := hp
  refine mk_v (by decide) (eok l D cI cT) (by simp [Value.category]) (Nat.le_of_ble_eq_true rfl) (fun J X hR => ?_)
  show J S 0 [some (.ref q)] []
  refine r_aload_n X d_Poly_clear_0 (by rfl) ?_
  refine r_get X lf_Poly_9 d_Poly_clear_1 (by assumption) (by rfl) ?_
  refine r_iconst X (x := (nI 0)) d_Poly_clear_4 (by decide) ?_
  refine r_cSv X ls_Poly_19 (c_fill (v := 0) ha (by omega)) (by decide) rfl (Nat.le_of_ble_eq_true rfl) d_Poly_clear_5 rfl (fun S1 h1 => ?_)
  refine r_aload_n X d_Poly_clear_8 (by rfl) ?_
  refine r_iconst X (x := (-1)) d_Poly_clear_9 (by decide) ?_
  refine r_put X lp_Poly_15 d_Poly_clear_10 (by assumption) (by rfl) (Nat.le_of_ble_eq_true rfl) ?_
  refine hR _ _ _ d_Poly_clear_13 ⟨rfl, ?_⟩
  subst h1
  refine ⟨⟨?_, ?_⟩, ?_⟩
  · rw [fdS_1, arS_1]
    funext i
    split <;> rfl
  · rw [fdS_2, tp_zero, m1_tI]
  · exact (Out.ar (by omega) (by omega)).trans (Out.fd (by omega) (by omega))
set_option maxHeartbeats 4000000 in
set_option maxRecDepth 100000 in
theorem c_setLinear {q n a b : Nat} (hp : isP G q n) (ha7 : a < 10007) (hb7 : b < 10007) : CT (mkE l D cI cT) G y_Poly_setLinear b_Poly_setLinear 3 none 2 [.ref q, .int (nI a), .int (nI b)] S (Pv (fun S' => pIs S' q n (lin a b) ∧ Out S S' q 2)) := by
  have hp0 := hp
  obtain ⟨hq, ha, hn2, hn⟩ := hp
  refine mk_v (by decide) (eok l D cI cT) (by simp [Value.category]) (Nat.le_of_ble_eq_true rfl) (fun J X hR => ?_)
  show J S 0 [some (.ref q), some (.int (nI a)), some (.int (nI b))] []
  refine r_aload_n X d_Poly_setLinear_0 (by rfl) ?_
  refine r_cVv X lv_Poly_25 (c_clear hp0) (by assumption) (by decide) rfl (Nat.le_of_ble_eq_true rfl) d_Poly_setLinear_1 rfl (fun S1 h1 => ?_)
  obtain ⟨⟨h1, h2⟩, ho⟩ := h1
  refine r_aload_n X d_Poly_setLinear_4 (by rfl) ?_
  refine r_get X lf_Poly_9 d_Poly_setLinear_5 (by assumption) (by rfl) ?_
  refine r_iconst X (x := (nI 1)) d_Poly_setLinear_8 (by decide) ?_
  refine r_iload_n X d_Poly_setLinear_9 (by rfl) ?_
  refine r_iast X d_Poly_setLinear_10 (by assumption) (by omega) (by omega) ?_
  refine r_aload_n X d_Poly_setLinear_11 (by rfl) ?_
  refine r_get X lf_Poly_9 d_Poly_setLinear_12 (by assumption) (by rfl) ?_
  refine r_iconst X (x := (nI 0)) d_Poly_setLinear_15 (by decide) ?_
  refine r_iload_n X d_Poly_setLinear_16 (by rfl) ?_
  refine r_iast X d_Poly_setLinear_17 (by assumption) (by omega) (by omega) ?_
  refine r_aload_n X d_Poly_setLinear_18 (by rfl) ?_
  have ho2 : Out S1 (arS (arS S1 (q + 1) (va_up (S1.1 (q + 1)) 1 a)) (q + 1) (va_up ((arS S1 (q + 1) (va_up (S1.1 (q + 1)) 1 a)).1 (q + 1)) 0 b)) q 2 := (Out.ar (by omega) (by omega)).trans (Out.ar (by omega) (by omega))
  have e3 : (arS (arS S1 (q + 1) (va_up (S1.1 (q + 1)) 1 a)) (q + 1) (va_up ((arS S1 (q + 1) (va_up (S1.1 (q + 1)) 1 a)).1 (q + 1)) 0 b)).1 (q + 1) = lin a b := by
    rw [arS_1, arS_1, h1]
    funext i
    unfold va_up lin
    rfl
  revert ho2 e3
  generalize arS (arS S1 (q + 1) (va_up (S1.1 (q + 1)) 1 a)) (q + 1) (va_up ((arS S1 (q + 1) (va_up (S1.1 (q + 1)) 1 a)).1 (q + 1)) 0 b) = S2
  intro ho2 e3
  refine r_cVv X lv_Poly_28 (c_trim hp0 (fun i _ => by rw [e3]; exact (lin_ok ha7 hb7 hn2).1 i)) (by assumption) (by decide) rfl (Nat.le_of_ble_eq_true rfl) d_Poly_setLinear_19 rfl (fun S3 h3 => ?_)
  subst h3
  exact hR _ _ _ d_Poly_setLinear_22 ⟨rfl, pIs_trim e3, (ho.trans ho2).trans (Out.fd (by omega) (by omega))⟩
set_option maxHeartbeats 4000000 in
set_option maxRecDepth 100000 in
theorem c_copyFrom {q n q' n' : Nat} {g : Nat → Nat} (hp : isP G q n) (hp' : isP G q' n') (hne : q ≠ q') (hg : okP n' g) (hs : S.1 (q' + 1) = g) : CT (mkE l D cI cT) G y_Poly_copyFrom b_Poly_copyFrom 3 none 1 [.ref q, .ref q'] S (Pv (fun S' => pIs S' q n (cut n g) ∧ Out S S' q 2)) := by
  have hp0 := hp
  obtain ⟨hq, ha, hn2, hn⟩ := hp
  obtain ⟨hq', ha', hn2', hn'⟩ := hp'
  refine mk_v (by decide) (eok l D cI cT) (by simp [Value.category]) (Nat.le_of_ble_eq_true rfl) (fun J X hR => ?_)
  show J S 0 [some (.ref q), some (.ref q'), none] []
  have loop : ∀ m i S1, i + m = n → S1 = arS S (q + 1) (fun j => if j < i then g j else S.1 (q + 1) j) → J S1 2 [some (.ref q), some (.ref q'), some (.int (nI i))] [] := by
    intro m
    induction m with
    | zero =>
      intro i S1 hi hS
      refine r_iload_n X d_Poly_copyFrom_2 (by rfl) ?_
      refine r_aload_n X d_Poly_copyFrom_3 (by rfl) ?_
      refine r_get X lf_Poly_9 d_Poly_copyFrom_4 (by assumption) (by rfl) ?_
      refine r_alen X d_Poly_copyFrom_7 (by assumption) ?_
      refine r_icmp_geN X d_Poly_copyFrom_8 (tgt := 42) (by decide) (by omega) (by omega) (fun hc => ?_) (fun hc => ?_)
      · refine r_trunc X (f := cut n g) ha (fun j hj => ?_) ?_
        · rw [hS, arS_1, if_pos (by omega)]
          unfold cut
          rw [if_pos hj]
        · refine r_aload_n X d_Poly_copyFrom_42 (by rfl) ?_
          have e3 : (arS S1 (q + 1) (cut n g)).1 (q + 1) = cut n g := arS_1 _ _ _
          refine r_cVv X lv_Poly_28 (c_trim hp0 (fun i _ => by rw [e3]; exact (cut_ok n hg.1).1 i)) (by assumption) (by decide) rfl (Nat.le_of_ble_eq_true rfl) d_Poly_copyFrom_43 rfl (fun S3 h3 => ?_)
          subst h3
          refine hR _ _ _ d_Poly_copyFrom_46 ⟨rfl, pIs_trim e3, ?_⟩
          rw [hS]
          exact ((Out.ar (by omega) (by omega)).trans (Out.ar (by omega) (by omega))).trans (Out.fd (by omega) (by omega))
      · omega
    | succ m ih =>
      intro i S1 hi hS
      have h35 : ∀ v, v = g i → J S1 35 [some (.ref q), some (.ref q'), some (.int (nI i))] [.int (nI v), .int (nI i), .ref (q + 1)] := by
        intro v hv
        refine r_iast X d_Poly_copyFrom_35 (by assumption) (by omega) (by omega) ?_
        refine r_iincN X 1 d_Poly_copyFrom_36 (by rfl) (by decide) (by decide) ?_
        refine r_goto X d_Poly_copyFrom_39 (tgt := 2) (by decide) ?_
        refine ih (i + 1) _ (by omega) ?_
        rw [hS, arS_arS, arS_1, hv, up_lt g]
      refine r_iload_n X d_Poly_copyFrom_2 (by rfl) ?_
      refine r_aload_n X d_Poly_copyFrom_3 (by rfl) ?_
      refine r_get X lf_Poly_9 d_Poly_copyFrom_4 (by assumption) (by rfl) ?_
      refine r_alen X d_Poly_copyFrom_7 (by assumption) ?_
      refine r_icmp_geN X d_Poly_copyFrom_8 (tgt := 42) (by decide) (by omega) (by omega) (fun hc => ?_) (fun hc => ?_)
      · omega
      · refine r_aload_n X d_Poly_copyFrom_11 (by rfl) ?_
        refine r_get X lf_Poly_9 d_Poly_copyFrom_12 (by assumption) (by rfl) ?_
        refine r_iload_n X d_Poly_copyFrom_15 (by rfl) ?_
        refine r_iload_n X d_Poly_copyFrom_16 (by rfl) ?_
        refine r_aload_n X d_Poly_copyFrom_17 (by rfl) ?_
        refine r_get X lf_Poly_9 d_Poly_copyFrom_18 (by assumption) (by rfl) ?_
        refine r_alen X d_Poly_copyFrom_21 (by assumption) ?_
        refine r_icmp_geN X d_Poly_copyFrom_22 (tgt := 34) (by decide) (by omega) (by omega) (fun hc => ?_) (fun hc => ?_)
        · refine r_iconst X (x := nI 0) d_Poly_copyFrom_34 (by decide) ?_
          exact h35 0 (hg.2 i hc).symm
        · refine r_aload_n X d_Poly_copyFrom_25 (by rfl) ?_
          refine r_get X lf_Poly_9 d_Poly_copyFrom_26 (by assumption) (by rfl) ?_
          refine r_iload_n X d_Poly_copyFrom_29 (by rfl) ?_
          refine r_iald X d_Poly_copyFrom_30 (by assumption) (by omega) (by omega) ?_
          refine r_goto X d_Poly_copyFrom_31 (tgt := 35) (by decide) ?_
          refine h35 _ ?_
          rw [hS, arS_1n (by omega), hs]
  refine r_iconst X (x := (nI 0)) d_Poly_copyFrom_0 (by decide) ?_
  refine r_istore_n X d_Poly_copyFrom_1 (by decide) ?_
  refine loop n 0 _ (by omega) ?_
  rw [if_lt0 g, arS_id]
set_option maxHeartbeats 4000000 in
set_option maxRecDepth 100000 in
theorem c_at {q n x : Nat} {f : Nat → Nat} (hp : isP G q n) (hf : okP n f) (hs : pIs S q n f) (hx : x < 10007) : CT (mkE l D cI cT) G y_Poly_at b_Poly_at 4 (some .int) 0 [.ref q, .int (nI x)] S (Pi (fun S' r => S' = S ∧ r = nI (hn f x n 0))) := by
  obtain ⟨hq, ha, hn2, hnn⟩ := hp
  obtain ⟨hs1, hs2⟩ := hs
  have htp := tp_le f n
  refine mk_i (by decide) (eok l D cI cT) (by simp [Value.category]) (Nat.le_of_ble_eq_true rfl) (fun J X hR => ?_)
  show J S 0 [some (.ref q), some (.int (nI x)), none, none] []
  have loop : ∀ t y, t ≤ n → y = hn f x (n - t) t → J S 7 [some (.ref q), some (.int (nI x)), some (.int (nI y)), some (.int (tI t))] [] := by
    intro t
    induction t with
    | zero =>
      intro y ht hy
      refine r_iload_n X d_Poly_at_7 (by rfl) ?_
      refine r_if_ltT X d_Poly_at_8 (tgt := 32) (by decide) (by omega) (fun hc => ?_) (fun u hc => ?_)
      · refine r_iload_n X d_Poly_at_32 (by rfl) ?_
        exact hR _ _ _ _ d_Poly_at_33 rfl ⟨_, rfl, rfl, by rw [hy]; rfl⟩
      · omega
    | succ t ih =>
      intro y ht hy
      refine r_iload_n X d_Poly_at_7 (by rfl) ?_
      refine r_if_ltT X d_Poly_at_8 (tgt := 32) (by decide) (by omega) (fun hc => ?_) (fun u hc => ?_)
      · omega
      · rw [tI_s]
        have hy7 : y < 10007 := by rw [hy]; exact hn_lt _ _ _ _
        have hm := mul_bd hy7 hx
        have hft := hf.1 t
        refine r_iload_n X d_Poly_at_11 (by rfl) ?_
        refine r_iload_n X d_Poly_at_12 (by rfl) ?_
        first | refine r_imulN X d_Poly_at_13 ?_ | refine r_imul X d_Poly_at_13 ?_
        refine r_aload_n X d_Poly_at_14 (by rfl) ?_
        refine r_get X lf_Poly_9 d_Poly_at_15 (by assumption) (by rfl) ?_
        refine r_iload_n X d_Poly_at_18 (by rfl) ?_
        refine r_iald X d_Poly_at_19 (by assumption) (by omega) (by omega) ?_
        rw [hs1]
        first | refine r_iaddN X d_Poly_at_20 ?_ | refine r_iadd X d_Poly_at_20 ?_
        refine r_sipush X (x := (nI 10007)) d_Poly_at_21 (by decide) ?_
        refine r_iremN X d_Poly_at_24 (by decide) (by decide) (by omega) ?_
        refine r_istore_n X d_Poly_at_25 (by decide) ?_
        refine r_iincD X d_Poly_at_26 (by rfl) (by decide) ?_
        refine r_goto X d_Poly_at_29 (tgt := 7) (by decide) ?_
        refine ih _ (by omega) ?_
        rw [show n - t = (n - (t + 1)) + 1 by omega]
        show _ = (hn f x (n - (t + 1)) (t + 1) * x + f t) % 10007
        rw [← hy]
  refine r_iconst X (x := (nI 0)) d_Poly_at_0 (by decide) ?_
  refine r_istore_n X d_Poly_at_1 (by decide) ?_
  refine r_aload_n X d_Poly_at_2 (by rfl) ?_
  refine r_get X lf_Poly_15 d_Poly_at_3 (by assumption) (by rfl) ?_
  refine r_int hs2 ?_
  refine r_istore_n X d_Poly_at_6 (by decide) ?_
  refine loop (tp f n) 0 htp ?_
  rw [hn_0 (fun j hj => hf.tz hj)]
end P1
