section M1
variable {l : Launch} {D : va_G} {cI cT : ClassId} {G : Gm} {S : Sg}
def isM (G : Gm) (m : Nat) : Prop := G m = some (kObj iModel (fun v => [.ref (m + 1), .ref (m + 2), .ref (m + 3), .ref (m + 4), .ref (m + 5), .int v, .ref (m + 6), .ref (m + 7), .ref (m + 8), .ref (m + 9)])) ∧ G (m + 1) = some (kArr 256) ∧ G (m + 2) = some (kArr 64) ∧ G (m + 3) = some (kArr 8) ∧ G (m + 4) = some (kArr 320) ∧ G (m + 5) = some (kArr 9) ∧ G (m + 6) = some (kArr 24) ∧ G (m + 7) = some (kArr 24) ∧ G (m + 8) = some (kArr 8) ∧ G (m + 9) = some (kArr 33)
def rowf (g : Nat → Nat) (p : Nat) : Nat → Nat := fun i => if i < 80 then g (p + i) else 0
def prt (g : Nat → Nat) (p : Nat) (h : Nat → Nat) (i : Nat) : Nat → Nat := fun j => if p ≤ j ∧ j < p + i then h (j - p) else g j
def rst (g : Nat → Nat) (p : Nat) (h : Nat → Nat) : Nat → Nat := prt g p h 80
def pdn (g : Nat → Nat) (p : Nat) (h : Nat → Nat) (i : Nat) : Nat → Nat := fun j => if p + i ≤ j ∧ j < p + 80 then h (j - p) else g j
theorem prt_0 (g : Nat → Nat) (p : Nat) (h : Nat → Nat) : prt g p h 0 = g := by
  funext j
  unfold prt
  rw [if_neg (by omega)]
theorem prt_up (g : Nat → Nat) (p : Nat) (h : Nat → Nat) (i : Nat) : va_up (prt g p h i) (p + i) (h i) = prt g p h (i + 1) := by
  funext j
  unfold va_up prt
  by_cases e : j = p + i
  · rw [if_pos e, if_pos (by omega), e, show p + i - p = i by omega]
  · rw [if_neg e]
    by_cases e2 : p ≤ j ∧ j < p + i
    · rw [if_pos e2, if_pos (by omega)]
    · rw [if_neg e2, if_neg (by omega)]
theorem prt_at {g : Nat → Nat} {p : Nat} {h : Nat → Nat} {i j : Nat} (hj : j < p ∨ p + i ≤ j) : prt g p h i j = g j := by
  unfold prt
  rw [if_neg (by omega)]
theorem pdn_80 (g : Nat → Nat) (p : Nat) (h : Nat → Nat) : pdn g p h 80 = g := by
  funext j
  unfold pdn
  rw [if_neg (by omega)]
theorem pdn_0 (g : Nat → Nat) (p : Nat) (h : Nat → Nat) : pdn g p h 0 = rst g p h := rfl
theorem pdn_up (g : Nat → Nat) (p : Nat) (h : Nat → Nat) {i : Nat} (hi : i < 80) : va_up (pdn g p h (i + 1)) (p + i) (h i) = pdn g p h i := by
  funext j
  unfold va_up pdn
  by_cases e : j = p + i
  · rw [if_pos e, if_pos (by omega), e, show p + i - p = i by omega]
  · rw [if_neg e]
    by_cases e2 : p + (i + 1) ≤ j ∧ j < p + 80
    · rw [if_pos e2, if_pos (by omega)]
    · rw [if_neg e2, if_neg (by omega)]
theorem pdn_at {g : Nat → Nat} {p : Nat} {h : Nat → Nat} {i j : Nat} (hj : j < p + i) : pdn g p h i j = g j := by
  unfold pdn
  rw [if_neg (by omega)]
theorem rowf_rst {g : Nat → Nat} {p : Nat} {h : Nat → Nat} (hh : okP 80 h) : rowf (rst g p h) p = h := by
  funext i
  unfold rowf rst prt
  by_cases hi : i < 80
  · rw [if_pos hi, if_pos (by omega), show p + i - p = i by omega]
  · rw [if_neg hi, hh.2 i (by omega)]
theorem rowf_ne {g : Nat → Nat} {p q : Nat} {h : Nat → Nat} (hq : q + 80 ≤ p ∨ p + 80 ≤ q) : rowf (rst g p h) q = rowf g q := by
  funext i
  unfold rowf rst prt
  by_cases hi : i < 80
  · rw [if_pos hi, if_pos hi, if_neg (by omega)]
  · rw [if_neg hi, if_neg hi]
theorem rst_rst (g : Nat → Nat) (p : Nat) (h k : Nat → Nat) : rst (rst g p h) p k = rst g p k := by
  funext j
  unfold rst prt
  by_cases e : p ≤ j ∧ j < p + 80
  · rw [if_pos e, if_pos e]
  · rw [if_neg e, if_neg e, if_neg e]
def okG (g : Nat → Nat) : Prop := ∀ j, g j < 10007
theorem okG.row {g : Nat → Nat} (h : okG g) (p : Nat) : okP 80 (rowf g p) := by
  refine ⟨fun i => ?_, fun i hi => ?_⟩
  · unfold rowf
    split
    · exact h _
    · decide
  · unfold rowf
    rw [if_neg (by omega)]
theorem okG.rst {g : Nat → Nat} (h : okG g) (p : Nat) {k : Nat → Nat} (hk : okP 80 k) : okG (rst g p k) := by
  intro j
  show prt g p k 80 j < 10007
  unfold prt
  split
  · exact hk.1 _
  · exact h j
theorem rst_at {g : Nat → Nat} {p i : Nat} {h : Nat → Nat} (hi : i < 80) : rst g p h (p + i) = h i := by
  unfold rst prt
  rw [if_pos (by omega), show p + i - p = i by omega]
theorem rowf_at {g : Nat → Nat} {p i : Nat} (hi : i < 80) : g (p + i) = rowf g p i := by
  unfold rowf
  rw [if_pos hi]
set_option maxHeartbeats 4000000 in
set_option maxRecDepth 100000 in
theorem m_mod {x : Int32} : CT (mkE l D cI cT) G y_Model_mod b_Model_mod 2 (some .int) 0 [.int x] S (Pi (fun S' r => S' = S ∧ r = nI (em x))) := by
  refine mk_i (by decide) (eok l D cI cT) (by simp [Value.category]) (Nat.le_of_ble_eq_true rfl) (fun J X hR => ?_)
  show J S 0 [some (.int x), none] []
  refine r_iload_n X d_Model_mod_0 (by rfl) ?_
  refine r_sipush X (x := (nI 10007)) d_Model_mod_1 (by decide) ?_
  refine r_irem X d_Model_mod_4 (by decide) ?_
  refine r_istore_n X d_Model_mod_5 (by decide) ?_
  refine r_iload_n X d_Model_mod_6 (by rfl) ?_
  refine r_if_ge X d_Model_mod_7 (tgt := 18) (by decide) (fun hc => ?_) (fun hc => ?_)
  · refine r_iload_n X d_Model_mod_18 (by rfl) ?_
    exact hR _ _ _ _ d_Model_mod_19 rfl ⟨_, rfl, rfl, rem_pos (Or.inl (Int32.not_lt.mpr hc))⟩
  · refine r_iload_n X d_Model_mod_10 (by rfl) ?_
    refine r_sipush X (x := nI 10007) d_Model_mod_11 (by decide) ?_
    refine r_iadd X d_Model_mod_14 ?_
    refine r_goto X d_Model_mod_15 (tgt := 19) (by decide) ?_
    exact hR _ _ _ _ d_Model_mod_19 rfl ⟨_, rfl, rfl, rem_neg (Int32.not_le.mp hc)⟩
set_option maxHeartbeats 4000000 in
set_option maxRecDepth 100000 in
theorem m_raise {b n : Nat} (hb : b < 10007) (hn : n < 2 ^ 31) : CT (mkE l D cI cT) G y_Model_raise b_Model_raise 5 (some .int) 0 [.int (nI b), .int (nI n)] S (Pi (fun S' r => S' = S ∧ r = nI (pw b n))) := by
  refine mk_i (by decide) (eok l D cI cT) (by simp [Value.category]) (Nat.le_of_ble_eq_true rfl) (fun J X hR => ?_)
  show J S 0 [some (.int (nI b)), some (.int (nI n)), none, none, none] []
  have loop : ∀ fuel y f m, m < 2 ^ 31 → m < 2 ^ fuel → y < 10007 → f < 10007 → pwr fuel y f m = pw b n → J S 7 [some (.int (nI b)), some (.int (nI n)), some (.int (nI y)), some (.int (nI f)), some (.int (nI m))] [] := by
    intro fuel
    induction fuel with
    | zero =>
      intro y f m hm31 hm hy hf hr
      refine r_iload X d_Model_raise_7 (by rfl) ?_
      refine r_if_leN X d_Model_raise_9 (tgt := 49) (by decide) (by omega) (fun hc => ?_) (fun hc => ?_)
      · refine r_iload_n X d_Model_raise_49 (by rfl) ?_
        exact hR _ _ _ _ d_Model_raise_50 rfl ⟨_, rfl, rfl, by rw [← hr]; rfl⟩
      · omega
    | succ fuel ih =>
      intro y f m hm31 hm hy hf hr
      unfold pwr at hr
      refine r_iload X d_Model_raise_7 (by rfl) ?_
      refine r_if_leN X d_Model_raise_9 (tgt := 49) (by decide) (by omega) (fun hc => ?_) (fun hc => ?_)
      · rw [if_pos hc] at hr
        refine r_iload_n X d_Model_raise_49 (by rfl) ?_
        exact hR _ _ _ _ d_Model_raise_50 rfl ⟨_, rfl, rfl, by rw [hr]⟩
      · rw [if_neg (by omega)] at hr
        have hff := mul_bd hf hf
        have h31 : ∀ y', y' < 10007 → (y' = if m % 2 = 1 then y * f % 10007 else y) → J S 31 [some (.int (nI b)), some (.int (nI n)), some (.int (nI y)), some (.int (nI f)), some (.int (nI m))] [.int (nI y')] := by
          intro y' hy' he
          refine r_istore_n X d_Model_raise_31 (by decide) ?_
          refine r_iload_n X d_Model_raise_32 (by rfl) ?_
          refine r_iload_n X d_Model_raise_33 (by rfl) ?_
          first | refine r_imulN X d_Model_raise_34 ?_ | refine r_imul X d_Model_raise_34 ?_
          refine r_sipush X (x := (nI 10007)) d_Model_raise_35 (by decide) ?_
          refine r_iremN X d_Model_raise_38 (by decide) (by decide) (by omega) ?_
          refine r_istore_n X d_Model_raise_39 (by decide) ?_
          refine r_iload X d_Model_raise_40 (by rfl) ?_
          refine r_iconst X (x := (nI 2)) d_Model_raise_42 (by decide) ?_
          refine r_idivN X d_Model_raise_43 (by decide) (by decide) (by omega) ?_
          refine r_istore X d_Model_raise_44 (by decide) ?_
          refine r_goto X d_Model_raise_46 (tgt := 7) (by decide) ?_
          refine ih y' (f * f % 10007) (m / 2) (by omega) (by omega) hy' (Nat.mod_lt _ (by decide)) ?_
          rw [he]
          exact hr
        refine r_iload X d_Model_raise_12 (by rfl) ?_
        refine r_iconst X (x := (nI 2)) d_Model_raise_14 (by decide) ?_
        refine r_iremN X d_Model_raise_15 (by decide) (by decide) (by omega) ?_
        refine r_iconst X (x := (nI 1)) d_Model_raise_16 (by decide) ?_
        refine r_icmp_neN X d_Model_raise_17 (tgt := 30) (by decide) (by omega) (by omega) (fun hc => ?_) (fun hc => ?_)
        · refine r_iload_n X d_Model_raise_30 (by rfl) ?_
          exact h31 y hy (by rw [if_neg hc])
        · have hyf := mul_bd hy hf
          refine r_iload_n X d_Model_raise_20 (by rfl) ?_
          refine r_iload_n X d_Model_raise_21 (by rfl) ?_
          first | refine r_imulN X d_Model_raise_22 ?_ | refine r_imul X d_Model_raise_22 ?_
          refine r_sipush X (x := (nI 10007)) d_Model_raise_23 (by decide) ?_
          refine r_iremN X d_Model_raise_26 (by decide) (by decide) (by omega) ?_
          refine r_goto X d_Model_raise_27 (tgt := 31) (by decide) ?_
          exact h31 _ (Nat.mod_lt _ (by decide)) (by rw [if_pos hc])
  refine r_iconst X (x := (nI 1)) d_Model_raise_0 (by decide) ?_
  refine r_istore_n X d_Model_raise_1 (by decide) ?_
  refine r_iload_n X d_Model_raise_2 (by rfl) ?_
  refine r_istore_n X d_Model_raise_3 (by decide) ?_
  refine r_iload_n X d_Model_raise_4 (by rfl) ?_
  refine r_istore X d_Model_raise_5 (by decide) ?_
  exact loop 32 1 b n hn (by omega) (by decide) hb rfl
set_option maxHeartbeats 4000000 in
set_option maxRecDepth 100000 in
theorem m_quotient {x y : Nat} (hx : x < 10007) (hy : y < 10007) : CT (mkE l D cI cT) G y_Model_quotient b_Model_quotient 2 (some .int) 1 [.int (nI x), .int (nI y)] S (Pi (fun S' r => S' = S ∧ r = nI (x * iv y % 10007))) := by
  refine mk_i (by decide) (eok l D cI cT) (by simp [Value.category]) (Nat.le_of_ble_eq_true rfl) (fun J X hR => ?_)
  show J S 0 [some (.int (nI x)), some (.int (nI y))] []
  refine r_iload_n X d_Model_quotient_0 (by rfl) ?_
  refine r_iload_n X d_Model_quotient_1 (by rfl) ?_
  refine r_sipush X (x := (nI 10005)) d_Model_quotient_2 (by decide) ?_
  refine r_cSi X ls_Model_37 (m_raise (n := 10005) hy (by decide)) (by decide) rfl (Nat.le_of_ble_eq_true rfl) d_Model_quotient_5 rfl (fun S1 r h1 => ?_)
  obtain ⟨rfl, rfl⟩ := h1
  have hm := mul_bd hx (pwl y 10005)
  first | refine r_imulN X d_Model_quotient_8 ?_ | refine r_imul X d_Model_quotient_8 ?_
  refine r_sipush X (x := (nI 10007)) d_Model_quotient_9 (by decide) ?_
  refine r_iremN X d_Model_quotient_12 (by decide) (by decide) (by omega) ?_
  exact hR _ _ _ _ d_Model_quotient_13 rfl ⟨_, rfl, rfl, rfl⟩
set_option maxHeartbeats 4000000 in
set_option maxRecDepth 100000 in
theorem m_clear {m p : Nat} (hm : isM G m) (hp : p ≤ 240) : CT (mkE l D cI cT) G y_Model_clear b_Model_clear 3 none 0 [.ref m, .int (nI p)] S (Pv (fun S' => S' = arS S (m + 4) (rst (S.1 (m + 4)) p (fun _ => 0)))) := by
  obtain ⟨hM, hco, hex, hra, hpo, hbe, hwe, hro, hle, hva⟩ := hm
  refine mk_v (by decide) (eok l D cI cT) (by simp [Value.category]) (Nat.le_of_ble_eq_true rfl) (fun J X hR => ?_)
  show J S 0 [some (.ref m), some (.int (nI p)), none] []
  have loop : ∀ k i S1, i + k = 80 → S1 = arS S (m + 4) (prt (S.1 (m + 4)) p (fun _ => 0) i) → J S1 2 [some (.ref m), some (.int (nI p)), some (.int (nI i))] [] := by
    intro k
    induction k with
    | zero =>
      intro i S1 hi hS
      refine r_iload_n X d_Model_clear_2 (by rfl) ?_
      refine r_bipush X (x := (nI 80)) d_Model_clear_3 (by decide) ?_
      refine r_icmp_geN X d_Model_clear_5 (tgt := 23) (by decide) (by omega) (by omega) (fun hc => ?_) (fun hc => ?_)
      · refine hR _ _ _ d_Model_clear_23 ⟨rfl, ?_⟩
        rw [hS, show i = 80 by omega]
        rfl
      · omega
    | succ k ih =>
      intro i S1 hi hS
      refine r_iload_n X d_Model_clear_2 (by rfl) ?_
      refine r_bipush X (x := (nI 80)) d_Model_clear_3 (by decide) ?_
      refine r_icmp_geN X d_Model_clear_5 (tgt := 23) (by decide) (by omega) (by omega) (fun hc => ?_) (fun hc => ?_)
      · omega
      · refine r_aload_n X d_Model_clear_8 (by rfl) ?_
        refine r_get X lf_Model_19 d_Model_clear_9 (by assumption) (by rfl) ?_
        refine r_iload_n X d_Model_clear_12 (by rfl) ?_
        refine r_iload_n X d_Model_clear_13 (by rfl) ?_
        first | refine r_iaddN X d_Model_clear_14 ?_ | refine r_iadd X d_Model_clear_14 ?_
        refine r_iconst X (x := (nI 0)) d_Model_clear_15 (by decide) ?_
        refine r_iast X d_Model_clear_16 (by assumption) (by omega) (by omega) ?_
        refine r_iincN X 1 d_Model_clear_17 (by rfl) (by decide) (by decide) ?_
        refine r_goto X d_Model_clear_20 (tgt := 2) (by decide) ?_
        refine ih (i + 1) _ (by omega) ?_
        rw [hS, arS_arS, arS_1, prt_up (S.1 (m + 4)) p (fun _ => 0) i]
  refine r_iconst X (x := (nI 0)) d_Model_clear_0 (by decide) ?_
  refine r_istore_n X d_Model_clear_1 (by decide) ?_
  refine loop 80 0 _ (by omega) ?_
  rw [prt_0, arS_id]
def crw (c : Nat → Nat) (s : Nat) : Nat → Nat := fun i => if i < 32 then c (32 * s + i) else 0
set_option maxHeartbeats 4000000 in
set_option maxRecDepth 100000 in
theorem m_load {m p s : Nat} (hm : isM G m) (hp : p ≤ 240) (hs : s < 8) : CT (mkE l D cI cT) G y_Model_load b_Model_load 4 none 1 [.ref m, .int (nI p), .int (nI s)] S (Pv (fun S' => S' = arS S (m + 4) (rst (S.1 (m + 4)) p (crw (S.1 (m + 1)) s)))) := by
  have hm0 := hm
  obtain ⟨hM, hco, hex, hra, hpo, hbe, hwe, hro, hle, hva⟩ := hm
  refine mk_v (by decide) (eok l D cI cT) (by simp [Value.category]) (Nat.le_of_ble_eq_true rfl) (fun J X hR => ?_)
  show J S 0 [some (.ref m), some (.int (nI p)), some (.int (nI s)), none] []
  refine r_aload_n X d_Model_load_0 (by rfl) ?_
  refine r_iload_n X d_Model_load_1 (by rfl) ?_
  refine r_cVv X lv_Model_41 (m_clear hm0 hp) (by assumption) (by decide) rfl (Nat.le_of_ble_eq_true rfl) d_Model_load_2 rfl (fun S2 h2 => ?_)
  have loop : ∀ k i S1, i + k = 32 → S1 = arS S (m + 4) (prt (rst (S.1 (m + 4)) p (fun _ => 0)) p (crw (S.1 (m + 1)) s) i) → J S1 7 [some (.ref m), some (.int (nI p)), some (.int (nI s)), some (.int (nI i))] [] := by
    intro k
    induction k with
    | zero =>
      intro i S1 hi hS
      refine r_iload_n X d_Model_load_7 (by rfl) ?_
      refine r_bipush X (x := (nI 32)) d_Model_load_8 (by decide) ?_
      refine r_icmp_geN X d_Model_load_10 (tgt := 38) (by decide) (by omega) (by omega) (fun hc => ?_) (fun hc => ?_)
      · refine hR _ _ _ d_Model_load_38 ⟨rfl, ?_⟩
        rw [hS, show i = 32 by omega]
        congr 1
        funext j
        unfold rst prt
        by_cases e : p ≤ j ∧ j < p + 32
        · rw [if_pos e, if_pos (by omega)]
        · rw [if_neg e]
          by_cases e2 : p ≤ j ∧ j < p + 80
          · rw [if_pos e2, if_pos e2]
            unfold crw
            rw [if_neg (by omega)]
          · rw [if_neg e2, if_neg e2]
      · omega
    | succ k ih =>
      intro i S1 hi hS
      have e1 : S1.1 (m + 1) (32 * s + i) = crw (S.1 (m + 1)) s i := by
        rw [hS, arS_1n (by omega)]
        unfold crw
        rw [if_pos (by omega)]
      refine r_iload_n X d_Model_load_7 (by rfl) ?_
      refine r_bipush X (x := (nI 32)) d_Model_load_8 (by decide) ?_
      refine r_icmp_geN X d_Model_load_10 (tgt := 38) (by decide) (by omega) (by omega) (fun hc => ?_) (fun hc => ?_)
      · omega
      · refine r_aload_n X d_Model_load_13 (by rfl) ?_
        refine r_get X lf_Model_19 d_Model_load_14 (by assumption) (by rfl) ?_
        refine r_iload_n X d_Model_load_17 (by rfl) ?_
        refine r_iload_n X d_Model_load_18 (by rfl) ?_
        first | refine r_iaddN X d_Model_load_19 ?_ | refine r_iadd X d_Model_load_19 ?_
        refine r_aload_n X d_Model_load_20 (by rfl) ?_
        refine r_get X lf_Model_7 d_Model_load_21 (by assumption) (by rfl) ?_
        refine r_bipush X (x := (nI 32)) d_Model_load_24 (by decide) ?_
        refine r_iload_n X d_Model_load_26 (by rfl) ?_
        first | refine r_imulN X d_Model_load_27 ?_ | refine r_imul X d_Model_load_27 ?_
        refine r_iload_n X d_Model_load_28 (by rfl) ?_
        first | refine r_iaddN X d_Model_load_29 ?_ | refine r_iadd X d_Model_load_29 ?_
        refine r_iald X d_Model_load_30 (by assumption) (by omega) (by omega) ?_
        rw [e1]
        refine r_iast X d_Model_load_31 (by assumption) (by omega) (by omega) ?_
        refine r_iincN X 1 d_Model_load_32 (by rfl) (by decide) (by decide) ?_
        refine r_goto X d_Model_load_35 (tgt := 7) (by decide) ?_
        refine ih (i + 1) _ (by omega) ?_
        rw [hS, arS_arS, arS_1, prt_up _ p (crw (S.1 (m + 1)) s) i]
  refine r_iconst X (x := (nI 0)) d_Model_load_5 (by decide) ?_
  refine r_istore_n X d_Model_load_6 (by decide) ?_
  refine loop 32 0 _ (by omega) ?_
  rw [prt_0, h2]
set_option maxHeartbeats 4000000 in
set_option maxRecDepth 100000 in
theorem m_addRow {m p q c : Nat} (hm : isM G m) (hp : p ≤ 240) (hq : q ≤ 240) (hpq : p + 80 ≤ q ∨ q + 80 ≤ p) (hg : okG (S.1 (m + 4))) (hc7 : c ≤ 10007) : CT (mkE l D cI cT) G y_Model_addRow b_Model_addRow 5 none 0 [.ref m, .int (nI p), .int (nI q), .int (nI c)] S (Pv (fun S' => S' = arS S (m + 4) (rst (S.1 (m + 4)) p (ads 80 c (rowf (S.1 (m + 4)) p) (rowf (S.1 (m + 4)) q))))) := by
  obtain ⟨hM, hco, hex, hra, hpo, hbe, hwe, hro, hle, hva⟩ := hm
  refine mk_v (by decide) (eok l D cI cT) (by simp [Value.category]) (Nat.le_of_ble_eq_true rfl) (fun J X hR => ?_)
  show J S 0 [some (.ref m), some (.int (nI p)), some (.int (nI q)), some (.int (nI c)), none] []
  have loop : ∀ k i S1, i + k = 80 → S1 = arS S (m + 4) (prt (S.1 (m + 4)) p (ads 80 c (rowf (S.1 (m + 4)) p) (rowf (S.1 (m + 4)) q)) i) → J S1 3 [some (.ref m), some (.int (nI p)), some (.int (nI q)), some (.int (nI c)), some (.int (nI i))] [] := by
    intro k
    induction k with
    | zero =>
      intro i S1 hi hS
      refine r_iload X d_Model_addRow_3 (by rfl) ?_
      refine r_bipush X (x := (nI 80)) d_Model_addRow_5 (by decide) ?_
      refine r_icmp_geN X d_Model_addRow_7 (tgt := 50) (by decide) (by omega) (by omega) (fun hc => ?_) (fun hc => ?_)
      · refine hR _ _ _ d_Model_addRow_50 ⟨rfl, ?_⟩
        rw [hS, show i = 80 by omega]
        rfl
      · omega
    | succ k ih =>
      intro i S1 hi hS
      have e1 : S1.1 (m + 4) (p + i) = rowf (S.1 (m + 4)) p i := by
        rw [hS, arS_1, prt_at (by omega)]
        exact rowf_at (by omega)
      have e2 : S1.1 (m + 4) (q + i) = rowf (S.1 (m + 4)) q i := by
        rw [hS, arS_1, prt_at (by omega)]
        exact rowf_at (by omega)
      have b1 := (hg.row p).1 i
      have b2 := (hg.row q).1 i
      have hml : c * rowf (S.1 (m + 4)) q i ≤ 10007 * 10006 := Nat.mul_le_mul hc7 (by omega)
      refine r_iload X d_Model_addRow_3 (by rfl) ?_
      refine r_bipush X (x := (nI 80)) d_Model_addRow_5 (by decide) ?_
      refine r_icmp_geN X d_Model_addRow_7 (tgt := 50) (by decide) (by omega) (by omega) (fun hc => ?_) (fun hc => ?_)
      · omega
      · refine r_aload_n X d_Model_addRow_10 (by rfl) ?_
        refine r_get X lf_Model_19 d_Model_addRow_11 (by assumption) (by rfl) ?_
        refine r_iload_n X d_Model_addRow_14 (by rfl) ?_
        refine r_iload X d_Model_addRow_15 (by rfl) ?_
        first | refine r_iaddN X d_Model_addRow_17 ?_ | refine r_iadd X d_Model_addRow_17 ?_
        refine r_aload_n X d_Model_addRow_18 (by rfl) ?_
        refine r_get X lf_Model_19 d_Model_addRow_19 (by assumption) (by rfl) ?_
        refine r_iload_n X d_Model_addRow_22 (by rfl) ?_
        refine r_iload X d_Model_addRow_23 (by rfl) ?_
        first | refine r_iaddN X d_Model_addRow_25 ?_ | refine r_iadd X d_Model_addRow_25 ?_
        refine r_iald X d_Model_addRow_26 (by assumption) (by omega) (by omega) ?_
        refine r_iload_n X d_Model_addRow_27 (by rfl) ?_
        refine r_aload_n X d_Model_addRow_28 (by rfl) ?_
        refine r_get X lf_Model_19 d_Model_addRow_29 (by assumption) (by rfl) ?_
        refine r_iload_n X d_Model_addRow_32 (by rfl) ?_
        refine r_iload X d_Model_addRow_33 (by rfl) ?_
        first | refine r_iaddN X d_Model_addRow_35 ?_ | refine r_iadd X d_Model_addRow_35 ?_
        refine r_iald X d_Model_addRow_36 (by assumption) (by omega) (by omega) ?_
        rw [e1, e2]
        first | refine r_imulN X d_Model_addRow_37 ?_ | refine r_imul X d_Model_addRow_37 ?_
        first | refine r_iaddN X d_Model_addRow_38 ?_ | refine r_iadd X d_Model_addRow_38 ?_
        refine r_sipush X (x := (nI 10007)) d_Model_addRow_39 (by decide) ?_
        refine r_iremN X d_Model_addRow_42 (by decide) (by decide) (by omega) ?_
        refine r_iast X d_Model_addRow_43 (by assumption) (by omega) (by omega) ?_
        refine r_iincN X 1 d_Model_addRow_44 (by rfl) (by decide) (by decide) ?_
        refine r_goto X d_Model_addRow_47 (tgt := 3) (by decide) ?_
        refine ih (i + 1) _ (by omega) ?_
        rw [hS, arS_arS, arS_1, ← prt_up _ p (ads 80 c (rowf (S.1 (m + 4)) p) (rowf (S.1 (m + 4)) q)) i]
        congr 2
        unfold ads
        rw [if_pos (by omega), Nat.mul_comm c]
  refine r_iconst X (x := (nI 0)) d_Model_addRow_0 (by decide) ?_
  refine r_istore X d_Model_addRow_1 (by decide) ?_
  refine loop 80 0 _ (by omega) ?_
  rw [prt_0, arS_id]
set_option maxHeartbeats 4000000 in
set_option maxRecDepth 100000 in
theorem m_times {m p n : Nat} {x : Int32} (hm : isM G m) (hp : p ≤ 240) (hg : okG (S.1 (m + 4))) (hn : n < 1000) : CT (mkE l D cI cT) G y_Model_times b_Model_times 7 none 1 [.ref m, .int (nI p), .int x, .int (nI n)] S (Pv (fun S' => S' = arS S (m + 4) (rst (S.1 (m + 4)) p (mtN 80 (em x) n (rowf (S.1 (m + 4)) p))))) := by
  obtain ⟨hM, hco, hex, hra, hpo, hbe, hwe, hro, hle, hva⟩ := hm
  refine mk_v (by decide) (eok l D cI cT) (by simp [Value.category]) (Nat.le_of_ble_eq_true rfl) (fun J X hR => ?_)
  show J S 0 [some (.ref m), some (.int (nI p)), some (.int x), some (.int (nI n)), none, none, none] []
  have hc7 := em_lt x
  have loop : ∀ k u f S1 v, u + k = n → okP 80 f → S1 = arS S (m + 4) (rst (S.1 (m + 4)) p f) → mtN 80 (em x) k f = mtN 80 (em x) n (rowf (S.1 (m + 4)) p) → J S1 9 [some (.ref m), some (.int (nI p)), some (.int x), some (.int (nI n)), some (.int (nI (em x))), some (.int (nI u)), v] [] := by
    intro k
    induction k with
    | zero =>
      intro u f S1 v hu hf hS he
      refine r_iload X d_Model_times_9 (by rfl) ?_
      refine r_iload_n X d_Model_times_11 (by rfl) ?_
      refine r_icmp_geN X d_Model_times_12 (tgt := 92) (by decide) (by omega) (by omega) (fun hc => ?_) (fun hc => ?_)
      · refine hR _ _ _ d_Model_times_92 ⟨rfl, ?_⟩
        rw [hS, ← he]
        rfl
      · omega
    | succ k ih =>
      intro u f S1 v hu hf hS he
      have inner : ∀ i S2, i < 80 → S2 = arS S (m + 4) (pdn (rst (S.1 (m + 4)) p f) p (mt 80 (em x) f) (i + 1)) → J S2 19 [some (.ref m), some (.int (nI p)), some (.int x), some (.int (nI n)), some (.int (nI (em x))), some (.int (nI u)), some (.int (nI i))] [] := by
        intro i
        induction i with
        | zero =>
          intro S2 hi hS2
          have e1 : S2.1 (m + 4) p = f 0 := by
            rw [hS2, arS_1, pdn_at (by omega)]
            exact rst_at (i := 0) (by omega)
          have b1 := hf.1 0
          have hml := mul_bd hc7 b1
          refine r_iload X d_Model_times_19 (by rfl) ?_
          refine r_if_leN X d_Model_times_21 (tgt := 67) (by decide) (by omega) (fun hc => ?_) (fun hc => ?_)
          · refine r_aload_n X d_Model_times_67 (by rfl) ?_
            refine r_get X lf_Model_19 d_Model_times_68 (by assumption) (by rfl) ?_
            refine r_iload_n X d_Model_times_71 (by rfl) ?_
            refine r_iload X d_Model_times_72 (by rfl) ?_
            refine r_aload_n X d_Model_times_74 (by rfl) ?_
            refine r_get X lf_Model_19 d_Model_times_75 (by assumption) (by rfl) ?_
            refine r_iload_n X d_Model_times_78 (by rfl) ?_
            refine r_iald X d_Model_times_79 (by assumption) (by omega) (by omega) ?_
            rw [e1]
            first | refine r_imulN X d_Model_times_80 ?_ | refine r_imul X d_Model_times_80 ?_
            refine r_sipush X (x := (nI 10007)) d_Model_times_81 (by decide) ?_
            refine r_iremN X d_Model_times_84 (by decide) (by decide) (by omega) ?_
            refine r_iast X d_Model_times_85 (by assumption) (by omega) (by omega) ?_
            refine r_iincN X 1 d_Model_times_86 (by rfl) (by decide) (by decide) ?_
            refine r_goto X d_Model_times_89 (tgt := 9) (by decide) ?_
            refine ih (u + 1) (mt 80 (em x) f) _ _ (by omega) (mt_ok 80 (em x) f) ?_ he
            have e2 : em x * f 0 % 10007 = mt 80 (em x) f 0 := by
              unfold mt
              rw [if_pos (by omega), if_pos rfl, Nat.add_zero, Nat.mul_comm]
            have e3 : va_up (pdn (rst (S.1 (m + 4)) p f) p (mt 80 (em x) f) (0 + 1)) p (mt 80 (em x) f 0) = rst (S.1 (m + 4)) p (mt 80 (em x) f) := by
              have e5 := pdn_up (rst (S.1 (m + 4)) p f) p (mt 80 (em x) f) (i := 0) (by omega)
              rw [pdn_0, rst_rst] at e5
              exact e5
            rw [hS2, arS_arS, arS_1, e2, e3]
          · omega
        | succ i ihi =>
          intro S2 hi hS2
          have e1 : S2.1 (m + 4) (p + (i + 1)) = f (i + 1) := by
            rw [hS2, arS_1, pdn_at (by omega)]
            exact rst_at (by omega)
          have e1' : S2.1 (m + 4) (p + i) = f i := by
            rw [hS2, arS_1, pdn_at (by omega)]
            exact rst_at (by omega)
          have b1 := hf.1 (i + 1)
          have b2 := hf.1 i
          have hml := mul_bd hc7 b1
          refine r_iload X d_Model_times_19 (by rfl) ?_
          refine r_if_leN X d_Model_times_21 (tgt := 67) (by decide) (by omega) (fun hc => ?_) (fun hc => ?_)
          · omega
          · refine r_aload_n X d_Model_times_24 (by rfl) ?_
            refine r_get X lf_Model_19 d_Model_times_25 (by assumption) (by rfl) ?_
            refine r_iload_n X d_Model_times_28 (by rfl) ?_
            refine r_iload X d_Model_times_29 (by rfl) ?_
            first | refine r_iaddN X d_Model_times_31 ?_ | refine r_iadd X d_Model_times_31 ?_
            refine r_aload_n X d_Model_times_32 (by rfl) ?_
            refine r_get X lf_Model_19 d_Model_times_33 (by assumption) (by rfl) ?_
            refine r_iload_n X d_Model_times_36 (by rfl) ?_
            refine r_iload X d_Model_times_37 (by rfl) ?_
            first | refine r_iaddN X d_Model_times_39 ?_ | refine r_iadd X d_Model_times_39 ?_
            refine r_iconst X (x := (nI 1)) d_Model_times_40 (by decide) ?_
            first | refine r_isubN X d_Model_times_41 (by omega) ?_ | refine r_isub X d_Model_times_41 ?_
            refine r_int (y := nI (p + i)) (by rw [show p + (i + 1) - 1 = p + i by omega]) ?_
            refine r_iald X d_Model_times_42 (by assumption) (by omega) (by omega) ?_
            rw [e1']
            refine r_iload X d_Model_times_43 (by rfl) ?_
            refine r_aload_n X d_Model_times_45 (by rfl) ?_
            refine r_get X lf_Model_19 d_Model_times_46 (by assumption) (by rfl) ?_
            refine r_iload_n X d_Model_times_49 (by rfl) ?_
            refine r_iload X d_Model_times_50 (by rfl) ?_
            first | refine r_iaddN X d_Model_times_52 ?_ | refine r_iadd X d_Model_times_52 ?_
            refine r_iald X d_Model_times_53 (by assumption) (by omega) (by omega) ?_
            rw [e1]
            first | refine r_imulN X d_Model_times_54 ?_ | refine r_imul X d_Model_times_54 ?_
            first | refine r_iaddN X d_Model_times_55 ?_ | refine r_iadd X d_Model_times_55 ?_
            refine r_sipush X (x := (nI 10007)) d_Model_times_56 (by decide) ?_
            refine r_iremN X d_Model_times_59 (by decide) (by decide) (by omega) ?_
            refine r_iast X d_Model_times_60 (by assumption) (by omega) (by omega) ?_
            refine r_iincD X d_Model_times_61 (by rfl) (by decide) ?_
            refine r_goto X d_Model_times_64 (tgt := 19) (by decide) ?_
            refine r_forget X (L' := [some (.ref m), some (.int (nI p)), some (.int x), some (.int (nI n)), some (.int (nI (em x))), some (.int (nI u)), some (.int (nI i))]) ?_ (ihi _ (by omega) ?_)
            · intro k w hk
              rw [tI_s i]
              exact hk
            · have e4 : (f i + em x * f (i + 1)) % 10007 = mt 80 (em x) f (i + 1) := by
                unfold mt
                rw [if_pos hi, if_neg (by omega), show i + 1 - 1 = i by omega, Nat.add_comm, Nat.mul_comm]
              rw [hS2, arS_arS, arS_1, e4, pdn_up _ p _ hi]
      refine r_iload X d_Model_times_9 (by rfl) ?_
      refine r_iload_n X d_Model_times_11 (by rfl) ?_
      refine r_icmp_geN X d_Model_times_12 (tgt := 92) (by decide) (by omega) (by omega) (fun hc => ?_) (fun hc => ?_)
      · omega
      · refine r_bipush X (x := (nI 79)) d_Model_times_15 (by decide) ?_
        refine r_istore X d_Model_times_17 (by decide) ?_
        refine inner 79 _ (by omega) ?_
        rw [pdn_80, hS]
  refine r_iload_n X d_Model_times_0 (by rfl) ?_
  refine r_cSi X ls_Model_45 m_mod (by decide) rfl (Nat.le_of_ble_eq_true rfl) d_Model_times_1 rfl (fun S2 r h2 => ?_)
  obtain ⟨hxs, rfl⟩ := h2
  replace hxs := hxs.symm
  subst hxs
  refine r_istore X d_Model_times_4 (by decide) ?_
  refine r_iconst X (x := (nI 0)) d_Model_times_6 (by decide) ?_
  refine r_istore X d_Model_times_7 (by decide) ?_
  refine loop n 0 (rowf (S.1 (m + 4)) p) _ _ (by omega) (hg.row p) ?_ rfl
  rw [show rst (S.1 (m + 4)) p (rowf (S.1 (m + 4)) p) = S.1 (m + 4) by
    funext j
    unfold rst prt
    split
    · next h =>
      unfold rowf
      rw [if_pos (by omega), show p + (j - p) = j by omega]
    · rfl, arS_id]
set_option maxHeartbeats 4000000 in
set_option maxRecDepth 100000 in
theorem m_divide {m p b : Nat} (hm : isM G m) (hp : p ≤ 240) (hg : okG (S.1 (m + 4))) (hb : b < 10007) : CT (mkE l D cI cT) G y_Model_divide b_Model_divide 7 none 1 [.ref m, .int (nI p), .int (nI b)] S (Pv (fun S' => S' = arS S (m + 4) (rst (S.1 (m + 4)) p (dq 80 (rt b) (rowf (S.1 (m + 4)) p))))) := by
  obtain ⟨hM, hco, hex, hra, hpo, hbe, hwe, hro, hle, hva⟩ := hm
  refine mk_v (by decide) (eok l D cI cT) (by simp [Value.category]) (Nat.le_of_ble_eq_true rfl) (fun J X hR => ?_)
  show J S 0 [some (.ref m), some (.int (nI p)), some (.int (nI b)), none, none, none, none] []
  have hr7 : rt b < 10007 := Nat.mod_lt _ (by decide)
  have hrow := hg.row p
  have loop : ∀ t y v S1, t ≤ 80 → y = hn (rowf (S.1 (m + 4)) p) (rt b) (80 - t) t → S1 = arS S (m + 4) (pdn (S.1 (m + 4)) p (dq 80 (rt b) (rowf (S.1 (m + 4)) p)) t) → J S1 13 [some (.ref m), some (.int (nI p)), some (.int (nI b)), some (.int (nI (rt b))), some (.int (nI y)), some (.int (tI t)), v] [] := by
    intro t
    induction t with
    | zero =>
      intro y v S1 ht hy hS
      refine r_iload X d_Model_divide_13 (by rfl) ?_
      refine r_if_ltT X d_Model_divide_15 (tgt := 59) (by decide) (by omega) (fun hc => ?_) (fun uu hc => ?_)
      · exact hR _ _ _ d_Model_divide_59 ⟨rfl, by rw [hS]; rfl⟩
      · omega
    | succ t ih =>
      intro y v S1 ht hy hS
      refine r_iload X d_Model_divide_13 (by rfl) ?_
      refine r_if_ltT X d_Model_divide_15 (tgt := 59) (by decide) (by omega) (fun hc => ?_) (fun uu hc => ?_)
      · omega
      · rw [tI_s]
        have e1 : S1.1 (m + 4) (p + t) = rowf (S.1 (m + 4)) p t := by
          rw [hS, arS_1, pdn_at (by omega)]
          exact rowf_at (by omega)
        have hy7 : y < 10007 := by rw [hy]; exact hn_lt _ _ _ _
        have b1 := hrow.1 t
        have hml := mul_bd hr7 hy7
        refine r_aload_n X d_Model_divide_18 (by rfl) ?_
        refine r_get X lf_Model_19 d_Model_divide_19 (by assumption) (by rfl) ?_
        refine r_iload_n X d_Model_divide_22 (by rfl) ?_
        refine r_iload X d_Model_divide_23 (by rfl) ?_
        first | refine r_iaddN X d_Model_divide_25 ?_ | refine r_iadd X d_Model_divide_25 ?_
        refine r_iald X d_Model_divide_26 (by assumption) (by omega) (by omega) ?_
        rw [e1]
        refine r_istore X d_Model_divide_27 (by decide) ?_
        refine r_aload_n X d_Model_divide_29 (by rfl) ?_
        refine r_get X lf_Model_19 d_Model_divide_30 (by assumption) (by rfl) ?_
        refine r_iload_n X d_Model_divide_33 (by rfl) ?_
        refine r_iload X d_Model_divide_34 (by rfl) ?_
        first | refine r_iaddN X d_Model_divide_36 ?_ | refine r_iadd X d_Model_divide_36 ?_
        refine r_iload X d_Model_divide_37 (by rfl) ?_
        refine r_iast X d_Model_divide_39 (by assumption) (by omega) (by omega) ?_
        refine r_iload X d_Model_divide_40 (by rfl) ?_
        refine r_iload_n X d_Model_divide_42 (by rfl) ?_
        refine r_iload X d_Model_divide_43 (by rfl) ?_
        first | refine r_imulN X d_Model_divide_45 ?_ | refine r_imul X d_Model_divide_45 ?_
        first | refine r_iaddN X d_Model_divide_46 ?_ | refine r_iadd X d_Model_divide_46 ?_
        refine r_sipush X (x := (nI 10007)) d_Model_divide_47 (by decide) ?_
        refine r_iremN X d_Model_divide_50 (by decide) (by decide) (by omega) ?_
        refine r_istore X d_Model_divide_51 (by decide) ?_
        refine r_iincD X d_Model_divide_53 (by rfl) (by decide) ?_
        refine r_goto X d_Model_divide_56 (tgt := 13) (by decide) ?_
        refine ih _ _ _ (by omega) ?_ ?_
        · rw [show 80 - t = (80 - (t + 1)) + 1 by omega]
          show _ = (hn (rowf (S.1 (m + 4)) p) (rt b) (80 - (t + 1)) (t + 1) * rt b + rowf (S.1 (m + 4)) p t) % 10007
          rw [← hy, Nat.add_comm, Nat.mul_comm]
        · rw [hS, arS_arS, arS_1, ← pdn_up (S.1 (m + 4)) p (dq 80 (rt b) (rowf (S.1 (m + 4)) p)) (by omega : t < 80), hy]
          rfl
  refine r_iload_n X d_Model_divide_0 (by rfl) ?_
  refine r_ineg X d_Model_divide_1 ?_
  refine r_cSi X ls_Model_45 m_mod (by decide) rfl (Nat.le_of_ble_eq_true rfl) d_Model_divide_2 rfl (fun S2 r h2 => ?_)
  obtain ⟨hxs, rfl⟩ := h2
  replace hxs := hxs.symm
  subst hxs
  rw [em_neg hb]
  refine r_istore_n X d_Model_divide_5 (by decide) ?_
  refine r_iconst X (x := (nI 0)) d_Model_divide_6 (by decide) ?_
  refine r_istore X d_Model_divide_7 (by decide) ?_
  refine r_bipush X (x := tI 80) d_Model_divide_9 (by decide) ?_
  refine r_istore X d_Model_divide_11 (by decide) ?_
  refine loop 80 0 _ _ (by omega) rfl ?_
  rw [pdn_80, arS_id]
set_option maxHeartbeats 4000000 in
set_option maxRecDepth 100000 in
theorem m_at {m p : Nat} {x : Int32} (hm : isM G m) (hp : p ≤ 240) (hg : okG (S.1 (m + 4))) : CT (mkE l D cI cT) G y_Model_at b_Model_at 6 (some .int) 1 [.ref m, .int (nI p), .int x] S (Pi (fun S' r => S' = S ∧ r = nI (hn (rowf (S.1 (m + 4)) p) (em x) 80 0))) := by
  obtain ⟨hM, hco, hex, hra, hpo, hbe, hwe, hro, hle, hva⟩ := hm
  refine mk_i (by decide) (eok l D cI cT) (by simp [Value.category]) (Nat.le_of_ble_eq_true rfl) (fun J X hR => ?_)
  show J S 0 [some (.ref m), some (.int (nI p)), some (.int x), none, none, none] []
  have hx7 := em_lt x
  have hrow := hg.row p
  have loop : ∀ t y, t ≤ 80 → y = hn (rowf (S.1 (m + 4)) p) (em x) (80 - t) t → J S 12 [some (.ref m), some (.int (nI p)), some (.int x), some (.int (nI (em x))), some (.int (nI y)), some (.int (tI t))] [] := by
    intro t
    induction t with
    | zero =>
      intro y ht hy
      refine r_iload X d_Model_at_12 (by rfl) ?_
      refine r_if_ltT X d_Model_at_14 (tgt := 43) (by decide) (by omega) (fun hc => ?_) (fun uu hc => ?_)
      · refine r_iload X d_Model_at_43 (by rfl) ?_
        exact hR _ _ _ _ d_Model_at_45 rfl ⟨_, rfl, rfl, by rw [hy]⟩
      · omega
    | succ t ih =>
      intro y ht hy
      refine r_iload X d_Model_at_12 (by rfl) ?_
      refine r_if_ltT X d_Model_at_14 (tgt := 43) (by decide) (by omega) (fun hc => ?_) (fun uu hc => ?_)
      · omega
      · rw [tI_s]
        have e1 : S.1 (m + 4) (p + t) = rowf (S.1 (m + 4)) p t := rowf_at (by omega)
        have hy7 : y < 10007 := by rw [hy]; exact hn_lt _ _ _ _
        have b1 := hrow.1 t
        have hml := mul_bd hy7 hx7
        refine r_iload X d_Model_at_17 (by rfl) ?_
        refine r_iload_n X d_Model_at_19 (by rfl) ?_
        first | refine r_imulN X d_Model_at_20 ?_ | refine r_imul X d_Model_at_20 ?_
        refine r_aload_n X d_Model_at_21 (by rfl) ?_
        refine r_get X lf_Model_19 d_Model_at_22 (by assumption) (by rfl) ?_
        refine r_iload_n X d_Model_at_25 (by rfl) ?_
        refine r_iload X d_Model_at_26 (by rfl) ?_
        first | refine r_iaddN X d_Model_at_28 ?_ | refine r_iadd X d_Model_at_28 ?_
        refine r_iald X d_Model_at_29 (by assumption) (by omega) (by omega) ?_
        rw [e1]
        first | refine r_iaddN X d_Model_at_30 ?_ | refine r_iadd X d_Model_at_30 ?_
        refine r_sipush X (x := (nI 10007)) d_Model_at_31 (by decide) ?_
        refine r_iremN X d_Model_at_34 (by decide) (by decide) (by omega) ?_
        refine r_istore X d_Model_at_35 (by decide) ?_
        refine r_iincD X d_Model_at_37 (by rfl) (by decide) ?_
        refine r_goto X d_Model_at_40 (tgt := 12) (by decide) ?_
        refine ih _ (by omega) ?_
        rw [show 80 - t = (80 - (t + 1)) + 1 by omega]
        show _ = (hn (rowf (S.1 (m + 4)) p) (em x) (80 - (t + 1)) (t + 1) * em x + rowf (S.1 (m + 4)) p t) % 10007
        rw [← hy]
  refine r_iload_n X d_Model_at_0 (by rfl) ?_
  refine r_cSi X ls_Model_45 m_mod (by decide) rfl (Nat.le_of_ble_eq_true rfl) d_Model_at_1 rfl (fun S2 r h2 => ?_)
  obtain ⟨hxs, rfl⟩ := h2
  replace hxs := hxs.symm
  subst hxs
  refine r_istore_n X d_Model_at_4 (by decide) ?_
  refine r_iconst X (x := (nI 0)) d_Model_at_5 (by decide) ?_
  refine r_istore X d_Model_at_6 (by decide) ?_
  refine r_bipush X (x := tI 80) d_Model_at_8 (by decide) ?_
  refine r_istore X d_Model_at_10 (by decide) ?_
  exact loop 80 0 (by omega) rfl
set_option maxHeartbeats 4000000 in
set_option maxRecDepth 100000 in
theorem m_top {m p : Nat} (hm : isM G m) (hp : p ≤ 240) (hg : okG (S.1 (m + 4))) : CT (mkE l D cI cT) G y_Model_top b_Model_top 3 (some .int) 0 [.ref m, .int (nI p)] S (Pi (fun S' r => S' = S ∧ r = tI (tp (rowf (S.1 (m + 4)) p) 80))) := by
  obtain ⟨hM, hco, hex, hra, hpo, hbe, hwe, hro, hle, hva⟩ := hm
  refine mk_i (by decide) (eok l D cI cT) (by simp [Value.category]) (Nat.le_of_ble_eq_true rfl) (fun J X hR => ?_)
  show J S 0 [some (.ref m), some (.int (nI p)), none] []
  have hrow := hg.row p
  have loop : ∀ t, t ≤ 80 → tp (rowf (S.1 (m + 4)) p) t = tp (rowf (S.1 (m + 4)) p) 80 → J S 3 [some (.ref m), some (.int (nI p)), some (.int (tI t))] [] := by
    intro t
    induction t with
    | zero =>
      intro ht he
      refine r_iload_n X d_Model_top_3 (by rfl) ?_
      refine r_if_ltT X d_Model_top_4 (tgt := 24) (by decide) (by omega) (fun hc => ?_) (fun uu hc => ?_)
      · refine r_iload_n X d_Model_top_24 (by rfl) ?_
        exact hR _ _ _ _ d_Model_top_25 rfl ⟨_, rfl, rfl, by rw [← he]; rfl⟩
      · omega
    | succ t ih =>
      intro ht he
      have he2 : (if rowf (S.1 (m + 4)) p t = 0 then tp (rowf (S.1 (m + 4)) p) t else t + 1) = tp (rowf (S.1 (m + 4)) p) 80 := he
      refine r_iload_n X d_Model_top_3 (by rfl) ?_
      refine r_if_ltT X d_Model_top_4 (tgt := 24) (by decide) (by omega) (fun hc => ?_) (fun uu hc => ?_)
      · omega
      · rw [tI_s]
        have e1 : S.1 (m + 4) (p + t) = rowf (S.1 (m + 4)) p t := rowf_at (by omega)
        have b1 := hrow.1 t
        refine r_aload_n X d_Model_top_7 (by rfl) ?_
        refine r_get X lf_Model_19 d_Model_top_8 (by assumption) (by rfl) ?_
        refine r_iload_n X d_Model_top_11 (by rfl) ?_
        refine r_iload_n X d_Model_top_12 (by rfl) ?_
        first | refine r_iaddN X d_Model_top_13 ?_ | refine r_iadd X d_Model_top_13 ?_
        refine r_iald X d_Model_top_14 (by assumption) (by omega) (by omega) ?_
        rw [e1]
        refine r_if_neN X d_Model_top_15 (tgt := 24) (by decide) (by omega) (fun hc => ?_) (fun hc => ?_)
        · refine r_iload_n X d_Model_top_24 (by rfl) ?_
          refine hR _ _ _ _ d_Model_top_25 rfl ⟨_, rfl, rfl, ?_⟩
          rw [if_neg hc] at he2
          rw [← he2, tI_s]
        · rw [if_pos hc] at he2
          refine r_iincD X d_Model_top_18 (by rfl) (by decide) ?_
          refine r_goto X d_Model_top_21 (tgt := 3) (by decide) ?_
          exact ih (by omega) he2
  refine r_bipush X (x := tI 80) d_Model_top_0 (by decide) ?_
  refine r_istore_n X d_Model_top_2 (by decide) ?_
  exact loop 80 (by omega) rfl
end M1
