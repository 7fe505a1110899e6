section MC
variable {l : Launch} {D : va_G} {cI cT : ClassId} {G : Gm} {S : Sg}
theorem nI_dif {a b : Nat} (ha : a < 10007) (hb : b < 10007) : nI a - nI b + nI 10007 = nI (a + (10007 - b)) := by
  apply i32_ext
  rw [Int32.toInt_add, Int32.toInt_sub, nI_toInt (by omega), nI_toInt (by omega), nI_toInt (by omega), nI_toInt (by omega)]
  unfold Int.bmod
  simp only
  repeat' split
  all_goals omega
def dfv (v : Nat → Nat) : Nat → Nat → Nat
  | 0, j => v j
  | i + 1, j => if i + 1 ≤ j ∧ j ≤ 32 then (dfv v i j + (10007 - dfv v i (j - 1))) % 10007 else dfv v i j
theorem dfv_lt {v : Nat → Nat} (h : ∀ j, v j < 10007) : ∀ i j, dfv v i j < 10007 := by
  intro i
  induction i with
  | zero => exact h
  | succ i ih =>
    intro j
    unfold dfv
    split
    · exact Nat.mod_lt _ (by decide)
    · exact ih j
set_option maxHeartbeats 8000000 in
set_option maxRecDepth 100000 in
theorem m_differences {m : Nat} {v : Nat → Nat} (hm : isM G m) (hv : ∀ j, v j < 10007) (h9 : S.1 (m + 9) = v) : CT (mkE l D cI cT) G y_Model_differences b_Model_differences 3 none 0 [.ref m] S (Pv (fun S' => S' = arS S (m + 9) (dfv v 32))) := by
  obtain ⟨hM, hco, hex, hra, hpo, hbe, hwe, hro, hle, hva⟩ := hm
  refine mk_v (by decide) (eok l D cI cT) (by simp [Value.category]) (Nat.le_of_ble_eq_true rfl) (fun J X hR => ?_)
  show J S 0 [some (.ref m), none, none] []
  have loop : ∀ n i S1 o2, i + n = 32 → S1 = arS S (m + 9) (dfv v i) → J S1 2 [some (.ref m), some (.int (nI (i + 1))), o2] [] := by
    intro n
    induction n with
    | zero =>
      intro i S1 o2 hi hS
      refine r_iload_n X d_Model_differences_2 (by rfl) ?_
      refine r_bipush X (x := (nI 33)) d_Model_differences_3 (by decide) ?_
      refine r_icmp_geN X d_Model_differences_5 (tgt := 57) (by decide) (by omega) (by omega) (fun hc => ?_) (fun hc => ?_)
      · refine hR _ _ _ d_Model_differences_57 ⟨rfl, ?_⟩
        rw [hS, show i = 32 by omega]
      · omega
    | succ n ih =>
      intro i S1 o2 hi hS
      have inner : ∀ t S2, i + t ≤ 32 → S2 = arS S (m + 9) (fun x => if i + t < x then dfv v (i + 1) x else dfv v i x) → J S2 11 [some (.ref m), some (.int (nI (i + 1))), some (.int (nI (i + t)))] [] := by
        intro t
        induction t with
        | zero =>
          intro S2 ht hS2
          refine r_iload_n X d_Model_differences_11 (by rfl) ?_
          refine r_iload_n X d_Model_differences_12 (by rfl) ?_
          refine r_icmp_ltN X d_Model_differences_13 (tgt := 51) (by decide) (by omega) (by omega) (fun hc => ?_) (fun hc => ?_)
          · refine r_iincN X 1 d_Model_differences_51 (by rfl) (by decide) (by decide) ?_
            refine r_goto X d_Model_differences_54 (tgt := 2) (by decide) ?_
            refine ih (i + 1) S2 _ (by omega) ?_
            rw [hS2]
            congr 1
            funext x
            by_cases hx : i + 0 < x
            · rw [if_pos hx]
            · rw [if_neg hx]
              show _ = if i + 1 ≤ x ∧ x ≤ 32 then _ else dfv v i x
              rw [if_neg (by omega)]
          · omega
        | succ t iht =>
          intro S2 ht hS2
          have e1 : S2.1 (m + 9) (i + (t + 1)) = dfv v i (i + (t + 1)) := by
            rw [hS2, arS_1, if_neg (by omega)]
          have e2 : S2.1 (m + 9) (i + (t + 1) - 1) = dfv v i (i + (t + 1) - 1) := by
            rw [hS2, arS_1, if_neg (by omega)]
          have l1 := dfv_lt hv i (i + (t + 1))
          have l2 := dfv_lt hv i (i + (t + 1) - 1)
          refine r_iload_n X d_Model_differences_11 (by rfl) ?_
          refine r_iload_n X d_Model_differences_12 (by rfl) ?_
          refine r_icmp_ltN X d_Model_differences_13 (tgt := 51) (by decide) (by omega) (by omega) (fun hc => ?_) (fun hc => ?_)
          · omega
          · refine r_aload_n X d_Model_differences_16 (by rfl) ?_
            refine r_get X lf_Model_34 d_Model_differences_17 (by assumption) (by rfl) ?_
            refine r_iload_n X d_Model_differences_20 (by rfl) ?_
            refine r_aload_n X d_Model_differences_21 (by rfl) ?_
            refine r_get X lf_Model_34 d_Model_differences_22 (by assumption) (by rfl) ?_
            refine r_iload_n X d_Model_differences_25 (by rfl) ?_
            refine r_iald X d_Model_differences_26 (by assumption) (by omega) (by omega) ?_
            rw [e1]
            refine r_aload_n X d_Model_differences_27 (by rfl) ?_
            refine r_get X lf_Model_34 d_Model_differences_28 (by assumption) (by rfl) ?_
            refine r_iload_n X d_Model_differences_31 (by rfl) ?_
            refine r_iconst X (x := (nI 1)) d_Model_differences_32 (by decide) ?_
            first | refine r_isubN X d_Model_differences_33 (by omega) ?_ | refine r_isub X d_Model_differences_33 ?_
            refine r_iald X d_Model_differences_34 (by assumption) (by omega) (by omega) ?_
            rw [e2]
            refine r_isub X d_Model_differences_35 ?_
            refine r_sipush X (x := (nI 10007)) d_Model_differences_36 (by decide) ?_
            refine r_iadd X d_Model_differences_39 ?_
            refine r_int (nI_dif l1 l2) ?_
            refine r_sipush X (x := (nI 10007)) d_Model_differences_40 (by decide) ?_
            refine r_iremN X d_Model_differences_43 (by decide) (by decide) (by omega) ?_
            refine r_iast X d_Model_differences_44 (by assumption) (by omega) (by omega) ?_
            refine r_iincD X d_Model_differences_45 (by rfl) (by decide) ?_
            refine r_goto X d_Model_differences_48 (tgt := 11) (by decide) ?_
            rw [show tI (i + (t + 1)) = nI (i + t) from tI_s (i + t)]
            refine iht _ (by omega) ?_
            rw [hS2, arS_arS, arS_1]
            congr 1
            funext x
            by_cases hx : x = i + (t + 1)
            · rw [hx, va_up_s, if_pos (by omega)]
              show _ = if i + 1 ≤ i + (t + 1) ∧ i + (t + 1) ≤ 32 then (dfv v i (i + (t + 1)) + (10007 - dfv v i (i + (t + 1) - 1))) % 10007 else _
              rw [if_pos (by omega)]
            · rw [va_up_n hx]
              by_cases hx2 : i + (t + 1) < x
              · rw [if_pos hx2, if_pos (by omega)]
              · rw [if_neg hx2, if_neg (by omega)]
      refine r_iload_n X d_Model_differences_2 (by rfl) ?_
      refine r_bipush X (x := (nI 33)) d_Model_differences_3 (by decide) ?_
      refine r_icmp_geN X d_Model_differences_5 (tgt := 57) (by decide) (by omega) (by omega) (fun hc => ?_) (fun hc => ?_)
      · omega
      · refine r_bipush X (x := (nI 32)) d_Model_differences_8 (by decide) ?_
        refine r_istore_n X d_Model_differences_10 (by decide) ?_
        have hin := inner (n + 1) S1 (by omega) (by
          rw [hS]
          congr 1
          funext x
          by_cases hx : i + (n + 1) < x
          · rw [if_pos hx]
            show _ = if i + 1 ≤ x ∧ x ≤ 32 then _ else dfv v i x
            rw [if_neg (by omega)]
          · rw [if_neg hx])
        rw [hi] at hin
        exact hin
  refine r_iconst X (x := (nI 1)) d_Model_differences_0 (by decide) ?_
  refine r_istore_n X d_Model_differences_1 (by decide) ?_
  refine loop 32 0 S _ (by omega) ?_
  show S = arS S (m + 9) v
  rw [← h9, arS_id]
end MC
