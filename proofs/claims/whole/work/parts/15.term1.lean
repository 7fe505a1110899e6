section T1
variable {l : Launch} {D : va_G} {cI cT : ClassId} {G : Gm} {S : Sg}
def tIs (S : Sg) (t n : Nat) (N e : Nat → Nat) (z : Nat) : Prop := pIs S (t + 1) n N ∧ S.1 (t + 3) = e ∧ S.2 t = nI z
theorem tIs.out {S S1 : Sg} {t n a w z : Nat} {N e : Nat → Nat} (h : tIs S t n N e z) (ho : Out S S1 a w) (hd : t + 4 ≤ a ∨ a + w ≤ t) : tIs S1 t n N e z :=
  ⟨h.1.out ho (by omega), (ho.a1 (by omega)).trans h.2.1, (ho.a2 (by omega)).trans h.2.2⟩
def okE (e : Nat → Nat) : Prop := (∀ i, e i < 100) ∧ ∀ i, 9 ≤ i → e i = 0
theorem r_if_geT {E : Ev} {own : String} {cc : ByteArray} {nL k : Nat} {J : Jt} {pc : Nat} {L : List (Option Value)} {st : List Value} (X : Cx E G own cc nL k J) {t : Nat} {off : Int} {tgt : Nat} (d : decode cc pc = .ok (.ifCond .ge off, 3)) (ht : (pc : Int) + off = (tgt : Int)) (hb : t < 2 ^ 30) (kt : 0 < t → J S tgt L st) (kf : t = 0 → J S (pc + 3) L st) : J S pc L (.int (tI t) :: st) := by
  have e1 := tI_toInt hb
  refine r_if_ge X d ht (fun h => kt ?_) (fun h => kf ?_)
  · rw [Int32.le_iff_toInt_le, e1, Int32.toInt_zero] at h; omega
  · rw [Int32.le_iff_toInt_le, e1, Int32.toInt_zero] at h; omega
theorem cpy_0 {e f : Nat → Nat} {n : Nat} {i : Nat} (hi : i < n) : va_cpy e f 0 0 n i = e i := by
  unfold va_cpy
  rw [if_pos (by omega)]
  congr 1
  omega
set_option maxHeartbeats 4000000 in
set_option maxRecDepth 100000 in
theorem c_tclear {t n : Nat} (hp : isT G t n) : CT (mkE l D cI cT) G y_Term_clear b_Term_clear 1 none 2 [.ref t] S (Pv (fun S' => tIs S' t n (fun _ => 0) (fun _ => 0) 1 ∧ Out S S' t 4)) := by
  obtain ⟨hT, hpp, he⟩ := hp
  have hpp0 := hpp
  obtain ⟨hq, ha, hn2, hnn⟩ := hpp
  refine mk_v (by decide) (eok l D cI cT) (by simp [Value.category]) (Nat.le_of_ble_eq_true rfl) (fun J X hR => ?_)
  show J S 0 [some (.ref t)] []
  refine r_aload_n X d_Term_clear_0 (by rfl) ?_
  refine r_get X lf_Term_14 d_Term_clear_1 (by assumption) (by rfl) ?_
  refine r_cVv X lv_Term_28 (c_clear hpp0) (by assumption) (by decide) rfl (Nat.le_of_ble_eq_true rfl) d_Term_clear_4 rfl (fun S1 h1 => ?_)
  obtain ⟨h1, ho⟩ := h1
  refine r_aload_n X d_Term_clear_7 (by rfl) ?_
  refine r_get X lf_Term_20 d_Term_clear_8 (by assumption) (by rfl) ?_
  refine r_iconst X (x := (nI 0)) d_Term_clear_11 (by decide) ?_
  refine r_cSv X ls_Term_31 (c_fill (v := 0) he (by omega)) (by decide) rfl (Nat.le_of_ble_eq_true rfl) d_Term_clear_12 rfl (fun S2 h2 => ?_)
  have ho2 : Out S1 S2 (t + 3) 1 := by rw [h2]; exact Out.ar (by omega) (by omega)
  refine r_aload_n X d_Term_clear_15 (by rfl) ?_
  refine r_iconst X (x := (nI 1)) d_Term_clear_16 (by decide) ?_
  refine r_put X lp_Term_24 d_Term_clear_17 (by assumption) (by rfl) (Nat.le_of_ble_eq_true rfl) ?_
  refine hR _ _ _ d_Term_clear_20 ⟨rfl, ⟨?_, ?_, ?_⟩, ?_⟩
  · exact (h1.out ho2 (by omega)).out (Out.fd (a := t) (q := t) (w := 1) (by omega) (by omega)) (by omega)
  · rw [fdS_1, h2, arS_1]
    funext i
    split <;> rfl
  · rw [fdS_2]
  · exact ((ho.wide (by omega) (by omega)).trans (ho2.wide (by omega) (by omega))).trans (Out.fd (by omega) (by omega))
set_option maxHeartbeats 4000000 in
set_option maxRecDepth 100000 in
theorem c_tcopy {t n u m z : Nat} {N e : Nat → Nat} (hp : isT G t n) (hu : isT G u m) (hne : t ≠ u) (hN : okP m N) (hE : okE e) (hs : tIs S u m N e z) : CT (mkE l D cI cT) G y_Term_copyFrom b_Term_copyFrom 2 none 2 [.ref t, .ref u] S (Pv (fun S' => tIs S' t n (cut n N) e z ∧ Out S S' t 4)) := by
  have sep := hp.sep hu hne
  obtain ⟨hT, hpp, he⟩ := hp
  have hpp0 := hpp
  obtain ⟨hq, ha, hn2, hnn⟩ := hpp
  obtain ⟨hU, hpu, hue⟩ := hu
  have hpu0 := hpu
  obtain ⟨hqu, hau, hnu2, hnnu⟩ := hpu
  refine mk_v (by decide) (eok l D cI cT) (by simp [Value.category]) (Nat.le_of_ble_eq_true rfl) (fun J X hR => ?_)
  show J S 0 [some (.ref t), some (.ref u)] []
  refine r_aload_n X d_Term_copyFrom_0 (by rfl) ?_
  refine r_get X lf_Term_14 d_Term_copyFrom_1 (by assumption) (by rfl) ?_
  refine r_aload_n X d_Term_copyFrom_4 (by rfl) ?_
  refine r_get X lf_Term_14 d_Term_copyFrom_5 (by assumption) (by rfl) ?_
  refine r_cVv X lv_Term_37 (c_copyFrom hpp0 hpu0 (by omega) hN hs.1.1) (by assumption) (by decide) rfl (Nat.le_of_ble_eq_true rfl) d_Term_copyFrom_8 rfl (fun S1 h1 => ?_)
  obtain ⟨h1, ho⟩ := h1
  have hs1 := hs.out ho (by omega)
  refine r_aload_n X d_Term_copyFrom_11 (by rfl) ?_
  refine r_get X lf_Term_20 d_Term_copyFrom_12 (by assumption) (by rfl) ?_
  refine r_iconst X (x := (nI 0)) d_Term_copyFrom_15 (by decide) ?_
  refine r_aload_n X d_Term_copyFrom_16 (by rfl) ?_
  refine r_get X lf_Term_20 d_Term_copyFrom_17 (by assumption) (by rfl) ?_
  refine r_iconst X (x := (nI 0)) d_Term_copyFrom_20 (by decide) ?_
  refine r_aload_n X d_Term_copyFrom_21 (by rfl) ?_
  refine r_get X lf_Term_20 d_Term_copyFrom_22 (by assumption) (by rfl) ?_
  refine r_alen X d_Term_copyFrom_25 (by assumption) ?_
  refine r_copy X ly_Term_41 (by decide) (by assumption) (by assumption) (by omega) (by omega) (by omega) (by omega) rfl d_Term_copyFrom_26 ?_
  refine r_trunc X (f := e) he (fun i hi => ?_) ?_
  · rw [arS_1, cpy_0 hi, hs1.2.1]
  · rw [arS_arS]
    have ho2 : Out S1 (arS S1 (t + 3) e) (t + 3) 1 := Out.ar (by omega) (by omega)
    have hs2 := hs1.out ho2 (by omega)
    have h2 := h1.out ho2 (by omega)
    have e4 : (arS S1 (t + 3) e).1 (t + 3) = e := arS_1 _ _ _
    revert ho2 hs2 h2 e4
    generalize arS S1 (t + 3) e = S2
    intro ho2 hs2 h2 e4
    refine r_aload_n X d_Term_copyFrom_29 (by rfl) ?_
    refine r_aload_n X d_Term_copyFrom_30 (by rfl) ?_
    refine r_get X lf_Term_24 d_Term_copyFrom_31 (by assumption) (by rfl) ?_
    rw [hs2.2.2]
    refine r_put X lp_Term_24 d_Term_copyFrom_34 (by assumption) (by rfl) (Nat.le_of_ble_eq_true rfl) ?_
    refine hR _ _ _ d_Term_copyFrom_37 ⟨rfl, ⟨?_, ?_, ?_⟩, ?_⟩
    · exact h2.out (Out.fd (a := t) (q := t) (w := 1) (by omega) (by omega)) (by omega)
    · rw [fdS_1, e4]
    · rw [fdS_2]
    · exact ((ho.wide (by omega) (by omega)).trans (ho2.wide (by omega) (by omega))).trans (Out.fd (by omega) (by omega))
set_option maxHeartbeats 4000000 in
set_option maxRecDepth 100000 in
theorem c_isZero {t n z : Nat} {N e : Nat → Nat} (hp : isT G t n) (hs : tIs S t n N e z) : CT (mkE l D cI cT) G y_Term_isZero b_Term_isZero 1 (some .boolean) 0 [.ref t] S (Pi (fun S' r => S' = S ∧ ((r = nI 1 ∧ tp N n = 0) ∨ (r = nI 0 ∧ 0 < tp N n)))) := by
  obtain ⟨hT, ⟨hq, ha, hn2, hnn⟩, he⟩ := hp
  have htp := tp_le N n
  refine mk_i (by decide) (eok l D cI cT) (by simp [Value.category]) (Nat.le_of_ble_eq_true rfl) (fun J X hR => ?_)
  show J S 0 [some (.ref t)] []
  refine r_aload_n X d_Term_isZero_0 (by rfl) ?_
  refine r_get X lf_Term_14 d_Term_isZero_1 (by assumption) (by rfl) ?_
  refine r_get X lf_Term_47 d_Term_isZero_4 (by assumption) (by rfl) ?_
  rw [hs.1.2]
  refine r_if_geT X d_Term_isZero_7 (tgt := 14) (by decide) (by omega) (fun hc => ?_) (fun hc => ?_)
  · refine r_iconst X (x := (nI 0)) d_Term_isZero_14 (by decide) ?_
    exact hR _ _ _ _ d_Term_isZero_15 (by decide) ⟨_, rfl, rfl, Or.inr ⟨rfl, hc⟩⟩
  · refine r_iconst X (x := (nI 1)) d_Term_isZero_10 (by decide) ?_
    refine r_goto X d_Term_isZero_11 (tgt := 15) (by decide) ?_
    exact hR _ _ _ _ d_Term_isZero_15 (by decide) ⟨_, rfl, rfl, Or.inl ⟨rfl, hc⟩⟩
def ovr (n : Nat) (N e : Nat → Nat) : Prop := (∃ b, b < 8 ∧ 3 < e b) ∨ 32 < tp N n ∨ 0 < e 8
set_option maxHeartbeats 4000000 in
set_option maxRecDepth 100000 in
theorem c_isOver {t n z : Nat} {N e : Nat → Nat} (hp : isT G t n) (hE : okE e) (hs : tIs S t n N e z) : CT (mkE l D cI cT) G y_Term_isOver b_Term_isOver 2 (some .boolean) 0 [.ref t] S (Pi (fun S' r => S' = S ∧ ((r = nI 1 ∧ ovr n N e) ∨ (r = nI 0 ∧ ¬ ovr n N e)))) := by
  obtain ⟨hT, ⟨hq, ha, hn2, hnn⟩, he⟩ := hp
  have htp := tp_le N n
  refine mk_i (by decide) (eok l D cI cT) (by simp [Value.category]) (Nat.le_of_ble_eq_true rfl) (fun J X hR => ?_)
  show J S 0 [some (.ref t), none] []
  have loop : ∀ m b, b + m = 8 → (∀ i, i < b → ¬ 3 < e i) → J S 2 [some (.ref t), some (.int (nI b))] [] := by
    intro m
    induction m with
    | zero =>
      intro b hb hno
      have hno8 : ¬ ∃ b, b < 8 ∧ 3 < e b := fun ⟨i, hi, h⟩ => hno i (by omega) h
      have h8 := hE.1 8
      refine r_iload_n X d_Term_isOver_2 (by rfl) ?_
      refine r_bipush X (x := (nI 8)) d_Term_isOver_3 (by decide) ?_
      refine r_icmp_geN X d_Term_isOver_5 (tgt := 26) (by decide) (by omega) (by omega) (fun hc => ?_) (fun hc => ?_)
      · refine r_aload_n X d_Term_isOver_26 (by rfl) ?_
        refine r_get X lf_Term_14 d_Term_isOver_27 (by assumption) (by rfl) ?_
        refine r_get X lf_Term_47 d_Term_isOver_30 (by assumption) (by rfl) ?_
        rw [hs.1.2]
        refine r_bipush X (x := (nI 31)) d_Term_isOver_33 (by decide) ?_
        refine r_icmp_gt X d_Term_isOver_35 (tgt := 48) (by decide) (fun hc2 => ?_) (fun hc2 => ?_)
        · rw [Int32.lt_iff_toInt_lt, tI_toInt (by omega), nI_toInt (by omega)] at hc2
          refine r_iconst X (x := (nI 1)) d_Term_isOver_48 (by decide) ?_
          refine r_goto X d_Term_isOver_49 (tgt := 53) (by decide) ?_
          exact hR _ _ _ _ d_Term_isOver_53 (by decide) ⟨_, rfl, rfl, Or.inl ⟨rfl, Or.inr (Or.inl (by omega))⟩⟩
        · rw [Int32.lt_iff_toInt_lt, tI_toInt (by omega), nI_toInt (by omega)] at hc2
          refine r_aload_n X d_Term_isOver_38 (by rfl) ?_
          refine r_get X lf_Term_20 d_Term_isOver_39 (by assumption) (by rfl) ?_
          refine r_bipush X (x := (nI 8)) d_Term_isOver_42 (by decide) ?_
          refine r_iald X d_Term_isOver_44 (by assumption) (by omega) (by omega) ?_
          rw [hs.2.1]
          refine r_if_leN X d_Term_isOver_45 (tgt := 52) (by decide) (by omega) (fun hc => ?_) (fun hc => ?_)
          · refine r_iconst X (x := (nI 0)) d_Term_isOver_52 (by decide) ?_
            refine hR _ _ _ _ d_Term_isOver_53 (by decide) ⟨_, rfl, rfl, Or.inr ⟨rfl, ?_⟩⟩
            rintro (h | h | h)
            · exact hno8 h
            · omega
            · omega
          · refine r_iconst X (x := (nI 1)) d_Term_isOver_48 (by decide) ?_
            refine r_goto X d_Term_isOver_49 (tgt := 53) (by decide) ?_
            exact hR _ _ _ _ d_Term_isOver_53 (by decide) ⟨_, rfl, rfl, Or.inl ⟨rfl, Or.inr (Or.inr hc)⟩⟩
      · omega
    | succ m ih =>
      intro b hb hno
      have h8 := hE.1 b
      refine r_iload_n X d_Term_isOver_2 (by rfl) ?_
      refine r_bipush X (x := (nI 8)) d_Term_isOver_3 (by decide) ?_
      refine r_icmp_geN X d_Term_isOver_5 (tgt := 26) (by decide) (by omega) (by omega) (fun hc => ?_) (fun hc => ?_)
      · omega
      · refine r_aload_n X d_Term_isOver_8 (by rfl) ?_
        refine r_get X lf_Term_20 d_Term_isOver_9 (by assumption) (by rfl) ?_
        refine r_iload_n X d_Term_isOver_12 (by rfl) ?_
        refine r_iald X d_Term_isOver_13 (by assumption) (by omega) (by omega) ?_
        rw [hs.2.1]
        refine r_iconst X (x := (nI 3)) d_Term_isOver_14 (by decide) ?_
        refine r_icmp_leN X d_Term_isOver_15 (tgt := 20) (by decide) (by omega) (by omega) (fun hc => ?_) (fun hc => ?_)
        · refine r_iincN X 1 d_Term_isOver_20 (by rfl) (by decide) (by decide) ?_
          refine r_goto X d_Term_isOver_23 (tgt := 2) (by decide) ?_
          refine ih (b + 1) (by omega) (fun i hi => ?_)
          by_cases h : i = b
          · rw [h]; omega
          · exact hno i (by omega)
        · refine r_iconst X (x := (nI 1)) d_Term_isOver_18 (by decide) ?_
          exact hR _ _ _ _ d_Term_isOver_19 (by decide) ⟨_, rfl, rfl, Or.inl ⟨rfl, Or.inl ⟨b, by omega, hc⟩⟩⟩
  refine r_iconst X (x := (nI 0)) d_Term_isOver_0 (by decide) ?_
  refine r_istore_n X d_Term_isOver_1 (by decide) ?_
  exact loop 8 0 (by omega) (fun i hi => by omega)
set_option maxHeartbeats 4000000 in
set_option maxRecDepth 100000 in
theorem c_tmatches {t n u m z y : Nat} {N e M f : Nat → Nat} (hp : isT G t n) (hu : isT G u m) (hN : okP n N) (hM : okP m M) (hE : okE e) (hF : okE f) (hz : z < 10007) (hy : y < 10007) (hs : tIs S t n N e z) (hs' : tIs S u m M f y) : CT (mkE l D cI cT) G y_Term_matches b_Term_matches 3 (some .boolean) 1 [.ref t, .ref u] S (Pi (fun S' r => S' = S ∧ ((r = nI 1 ∧ N = M ∧ e = f ∧ z = y) ∨ (r = nI 0 ∧ ¬ (N = M ∧ e = f ∧ z = y))))) := by
  obtain ⟨hT, hpp, he⟩ := hp
  have hpp0 := hpp
  obtain ⟨hq, ha, hn2, hnn⟩ := hpp
  obtain ⟨hU, hpu, hue⟩ := hu
  have hpu0 := hpu
  obtain ⟨hqu, hau, hnu2, hnnu⟩ := hpu
  refine mk_i (by decide) (eok l D cI cT) (by simp [Value.category]) (Nat.le_of_ble_eq_true rfl) (fun J X hR => ?_)
  show J S 0 [some (.ref t), some (.ref u), none] []
  have loop : ∀ k b, b + k = 9 → (∀ i, i < b → e i = f i) → J S 2 [some (.ref t), some (.ref u), some (.int (nI b))] [] := by
    intro k
    induction k with
    | zero =>
      intro b hb heq
      have hef : e = f := by
        funext i
        by_cases h : i < 9
        · exact heq i (by omega)
        · rw [hE.2 i (by omega), hF.2 i (by omega)]
      refine r_iload_n X d_Term_matches_2 (by rfl) ?_
      refine r_bipush X (x := (nI 8)) d_Term_matches_3 (by decide) ?_
      refine r_icmp_gtN X d_Term_matches_5 (tgt := 31) (by decide) (by omega) (by omega) (fun hc => ?_) (fun hc => ?_)
      · refine r_aload_n X d_Term_matches_31 (by rfl) ?_
        refine r_get X lf_Term_24 d_Term_matches_32 (by assumption) (by rfl) ?_
        refine r_aload_n X d_Term_matches_35 (by rfl) ?_
        refine r_get X lf_Term_24 d_Term_matches_36 (by assumption) (by rfl) ?_
        rw [hs.2.2, hs'.2.2]
        refine r_icmp_neN X d_Term_matches_39 (tgt := 60) (by decide) (by omega) (by omega) (fun hc => ?_) (fun hc => ?_)
        · refine r_iconst X (x := (nI 0)) d_Term_matches_60 (by decide) ?_
          exact hR _ _ _ _ d_Term_matches_61 (by decide) ⟨_, rfl, rfl, Or.inr ⟨rfl, fun h => hc h.2.2⟩⟩
        · have hzy := hc
          refine r_aload_n X d_Term_matches_42 (by rfl) ?_
          refine r_get X lf_Term_14 d_Term_matches_43 (by assumption) (by rfl) ?_
          refine r_aload_n X d_Term_matches_46 (by rfl) ?_
          refine r_get X lf_Term_14 d_Term_matches_47 (by assumption) (by rfl) ?_
          refine r_cVi X lv_Term_50 (c_pmatches hpp0 hpu0 hN hM hs.1 hs'.1) (by assumption) (by decide) rfl (Nat.le_of_ble_eq_true rfl) d_Term_matches_50 rfl (fun S1 r h1 => ?_)
          obtain ⟨rfl, ⟨rfl, h1⟩ | ⟨rfl, h1⟩⟩ := h1
          · refine r_if_eqN X d_Term_matches_53 (tgt := 60) (by decide) (by omega) (fun hc => ?_) (fun hc => ?_)
            · omega
            · refine r_iconst X (x := (nI 1)) d_Term_matches_56 (by decide) ?_
              refine r_goto X d_Term_matches_57 (tgt := 61) (by decide) ?_
              exact hR _ _ _ _ d_Term_matches_61 (by decide) ⟨_, rfl, rfl, Or.inl ⟨rfl, h1, hef, hzy⟩⟩
          · refine r_if_eqN X d_Term_matches_53 (tgt := 60) (by decide) (by omega) (fun hc => ?_) (fun hc => ?_)
            · refine r_iconst X (x := (nI 0)) d_Term_matches_60 (by decide) ?_
              exact hR _ _ _ _ d_Term_matches_61 (by decide) ⟨_, rfl, rfl, Or.inr ⟨rfl, fun h => h1 h.1⟩⟩
            · omega
      · omega
    | succ k ih =>
      intro b hb heq
      have h8 := hE.1 b
      have h9 := hF.1 b
      refine r_iload_n X d_Term_matches_2 (by rfl) ?_
      refine r_bipush X (x := (nI 8)) d_Term_matches_3 (by decide) ?_
      refine r_icmp_gtN X d_Term_matches_5 (tgt := 31) (by decide) (by omega) (by omega) (fun hc => ?_) (fun hc => ?_)
      · omega
      · refine r_aload_n X d_Term_matches_8 (by rfl) ?_
        refine r_get X lf_Term_20 d_Term_matches_9 (by assumption) (by rfl) ?_
        refine r_iload_n X d_Term_matches_12 (by rfl) ?_
        refine r_iald X d_Term_matches_13 (by assumption) (by omega) (by omega) ?_
        refine r_aload_n X d_Term_matches_14 (by rfl) ?_
        refine r_get X lf_Term_20 d_Term_matches_15 (by assumption) (by rfl) ?_
        refine r_iload_n X d_Term_matches_18 (by rfl) ?_
        refine r_iald X d_Term_matches_19 (by assumption) (by omega) (by omega) ?_
        rw [hs.2.1, hs'.2.1]
        refine r_icmp_eqN X d_Term_matches_20 (tgt := 25) (by decide) (by omega) (by omega) (fun hc => ?_) (fun hc => ?_)
        · refine r_iincN X 1 d_Term_matches_25 (by rfl) (by decide) (by decide) ?_
          refine r_goto X d_Term_matches_28 (tgt := 2) (by decide) ?_
          refine ih (b + 1) (by omega) (fun i hi => ?_)
          by_cases h : i = b
          · rw [h]; exact hc
          · exact heq i (by omega)
        · refine r_iconst X (x := (nI 0)) d_Term_matches_23 (by decide) ?_
          exact hR _ _ _ _ d_Term_matches_24 (by decide) ⟨_, rfl, rfl, Or.inr ⟨rfl, fun h => hc (by rw [h.2.1])⟩⟩
  refine r_iconst X (x := (nI 0)) d_Term_matches_0 (by decide) ?_
  refine r_istore_n X d_Term_matches_1 (by decide) ?_
  exact loop 9 0 (by omega) (fun i hi => by omega)
def undf (e : Nat → Nat) (x : Int32) : Prop := ∃ b, b < 8 ∧ 0 < e b ∧ x + nI b = 0
set_option maxHeartbeats 4000000 in
set_option maxRecDepth 100000 in
theorem c_isDefinedAt {t n z : Nat} {N e : Nat → Nat} {x : Int32} (hp : isT G t n) (hE : okE e) (hs : tIs S t n N e z) : CT (mkE l D cI cT) G y_Term_isDefinedAt b_Term_isDefinedAt 3 (some .boolean) 0 [.ref t, .int x] S (Pi (fun S' r => S' = S ∧ ((r = nI 0 ∧ undf e x) ∨ (r = nI 1 ∧ ¬ undf e x)))) := by
  obtain ⟨hT, ⟨hq, ha, hn2, hnn⟩, he⟩ := hp
  refine mk_i (by decide) (eok l D cI cT) (by simp [Value.category]) (Nat.le_of_ble_eq_true rfl) (fun J X hR => ?_)
  show J S 0 [some (.ref t), some (.int x), none] []
  have loop : ∀ m b, b + m = 8 → (∀ i, i < b → ¬ (0 < e i ∧ x + nI i = 0)) → J S 2 [some (.ref t), some (.int x), some (.int (nI b))] [] := by
    intro m
    induction m with
    | zero =>
      intro b hb hno
      refine r_iload_n X d_Term_isDefinedAt_2 (by rfl) ?_
      refine r_bipush X (x := (nI 8)) d_Term_isDefinedAt_3 (by decide) ?_
      refine r_icmp_geN X d_Term_isDefinedAt_5 (tgt := 31) (by decide) (by omega) (by omega) (fun hc => ?_) (fun hc => ?_)
      · refine r_iconst X (x := (nI 1)) d_Term_isDefinedAt_31 (by decide) ?_
        exact hR _ _ _ _ d_Term_isDefinedAt_32 (by decide) ⟨_, rfl, rfl, Or.inr ⟨rfl, fun ⟨i, hi, h⟩ => hno i (by omega) h⟩⟩
      · omega
    | succ m ih =>
      intro b hb hno
      have h8 := hE.1 b
      have next : ¬ (0 < e b ∧ x + nI b = 0) → J S 25 [some (.ref t), some (.int x), some (.int (nI b))] [] := by
        intro h
        refine r_iincN X 1 d_Term_isDefinedAt_25 (by rfl) (by decide) (by decide) ?_
        refine r_goto X d_Term_isDefinedAt_28 (tgt := 2) (by decide) ?_
        refine ih (b + 1) (by omega) (fun i hi => ?_)
        by_cases h2 : i = b
        · rw [h2]; exact h
        · exact hno i (by omega)
      refine r_iload_n X d_Term_isDefinedAt_2 (by rfl) ?_
      refine r_bipush X (x := (nI 8)) d_Term_isDefinedAt_3 (by decide) ?_
      refine r_icmp_geN X d_Term_isDefinedAt_5 (tgt := 31) (by decide) (by omega) (by omega) (fun hc => ?_) (fun hc => ?_)
      · omega
      · refine r_aload_n X d_Term_isDefinedAt_8 (by rfl) ?_
        refine r_get X lf_Term_20 d_Term_isDefinedAt_9 (by assumption) (by rfl) ?_
        refine r_iload_n X d_Term_isDefinedAt_12 (by rfl) ?_
        refine r_iald X d_Term_isDefinedAt_13 (by assumption) (by omega) (by omega) ?_
        rw [hs.2.1]
        refine r_if_leN X d_Term_isDefinedAt_14 (tgt := 25) (by decide) (by omega) (fun hc => ?_) (fun hc => ?_)
        · exact next (fun h => by omega)
        · refine r_iload_n X d_Term_isDefinedAt_17 (by rfl) ?_
          refine r_iload_n X d_Term_isDefinedAt_18 (by rfl) ?_
          refine r_iadd X d_Term_isDefinedAt_19 ?_
          refine r_if_ne X d_Term_isDefinedAt_20 (tgt := 25) (by decide) (fun hc2 => ?_) (fun hc2 => ?_)
          · exact next (fun h => hc2 h.2)
          · refine r_iconst X (x := (nI 0)) d_Term_isDefinedAt_23 (by decide) ?_
            exact hR _ _ _ _ d_Term_isDefinedAt_24 (by decide) ⟨_, rfl, rfl, Or.inl ⟨rfl, b, by omega, hc, hc2⟩⟩
  refine r_iconst X (x := (nI 0)) d_Term_isDefinedAt_0 (by decide) ?_
  refine r_istore_n X d_Term_isDefinedAt_1 (by decide) ?_
  exact loop 8 0 (by omega) (fun i hi => by omega)
end T1
