section P3
variable {l : Launch} {D : va_G} {cI cT : ClassId} {G : Gm} {S : Sg}
theorem mt_hi {n b j : Nat} {f : Nat → Nat} (h1 : f j = 0) (h2 : j ≠ 0 → f (j - 1) = 0) : mt n b f j = 0 := by
  unfold mt
  split
  · rw [h1]
    by_cases h : j = 0
    · rw [if_pos h]; simp
    · rw [if_neg h, h2 h]; simp
  · rfl
set_option maxHeartbeats 4000000 in
set_option maxRecDepth 100000 in
theorem c_multiplyBy {q n b t : Nat} {f : Nat → Nat} (hp : isP G q n) (hf : okP n f) (hs : pIs S q n f) (hb7 : b < 10007) (ht : t < 1000) : CT (mkE l D cI cT) G y_Poly_multiplyBy b_Poly_multiplyBy 5 none 1 [.ref q, .int (nI b), .int (nI t)] S (Pv (fun S' => pIs S' q n (mtN n b t f) ∧ Out S S' q 2)) := by
  have hp0 := hp
  obtain ⟨hq, ha, hn2, hnn⟩ := hp
  refine mk_v (by decide) (eok l D cI cT) (by simp [Value.category]) (Nat.le_of_ble_eq_true rfl) (fun J X hR => ?_)
  show J S 0 [some (.ref q), some (.int (nI b)), some (.int (nI t)), none, none] []
  have loop : ∀ m u g S1 v, u + m = t → okP n g → pIs S1 q n g → Out S S1 q 2 → mtN n b m g = mtN n b t f → J S1 2 [some (.ref q), some (.int (nI b)), some (.int (nI t)), some (.int (nI u)), v] [] := by
    intro m
    induction m with
    | zero =>
      intro u g S1 v hu hg hs1 ho he
      refine r_iload_n X d_Poly_multiplyBy_2 (by rfl) ?_
      refine r_iload_n X d_Poly_multiplyBy_3 (by rfl) ?_
      refine r_icmp_geN X d_Poly_multiplyBy_4 (tgt := 94) (by decide) (by omega) (by omega) (fun hc => ?_) (fun hc => ?_)
      · refine hR _ _ _ d_Poly_multiplyBy_94 ⟨rfl, ?_, ho⟩
        rw [← he]
        exact hs1
      · omega
    | succ m ih =>
      intro u g S1 v hu hg hs1 ho he
      obtain ⟨hs1, hs2⟩ := hs1
      have htp := tp_le g n
      have inner : ∀ i S2, i < n → S2 = arS S1 (q + 1) (fun j => if i + 1 ≤ j then mt n b g j else g j) → J S2 25 [some (.ref q), some (.int (nI b)), some (.int (nI t)), some (.int (nI u)), some (.int (nI i))] [] := by
        intro i
        induction i with
        | zero =>
          intro S2 hi hS
          have e1 : S2.1 (q + 1) 0 = g 0 := by rw [hS, arS_1, if_neg (by omega)]
          have b1 := hg.1 0
          have hm := mul_bd b1 hb7
          refine r_iload X d_Poly_multiplyBy_25 (by rfl) ?_
          refine r_if_leN X d_Poly_multiplyBy_27 (tgt := 66) (by decide) (by omega) (fun hc => ?_) (fun hc => ?_)
          · refine r_aload_n X d_Poly_multiplyBy_66 (by rfl) ?_
            refine r_get X lf_Poly_9 d_Poly_multiplyBy_67 (by assumption) (by rfl) ?_
            refine r_iconst X (x := (nI 0)) d_Poly_multiplyBy_70 (by decide) ?_
            refine r_aload_n X d_Poly_multiplyBy_71 (by rfl) ?_
            refine r_get X lf_Poly_9 d_Poly_multiplyBy_72 (by assumption) (by rfl) ?_
            refine r_iconst X (x := (nI 0)) d_Poly_multiplyBy_75 (by decide) ?_
            refine r_iald X d_Poly_multiplyBy_76 (by assumption) (by omega) (by omega) ?_
            rw [e1]
            refine r_iload_n X d_Poly_multiplyBy_77 (by rfl) ?_
            first | refine r_imulN X d_Poly_multiplyBy_78 ?_ | refine r_imul X d_Poly_multiplyBy_78 ?_
            refine r_sipush X (x := (nI 10007)) d_Poly_multiplyBy_79 (by decide) ?_
            refine r_iremN X d_Poly_multiplyBy_82 (by decide) (by decide) (by omega) ?_
            refine r_iast X d_Poly_multiplyBy_83 (by assumption) (by omega) (by omega) ?_
            refine r_aload_n X d_Poly_multiplyBy_84 (by rfl) ?_
            have e3 : (arS S2 (q + 1) (va_up (S2.1 (q + 1)) 0 (g 0 * b % 10007))).1 (q + 1) = mt n b g := by
              rw [arS_1, hS, arS_1]
              have e4 : g 0 * b % 10007 = mt n b g 0 := by
                unfold mt
                rw [if_pos (by omega), if_pos rfl, Nat.add_zero]
              rw [e4, up_ge (mt n b g) g 0]
              funext j
              rw [if_pos (by omega)]
            have ho2 : Out S1 (arS S2 (q + 1) (va_up (S2.1 (q + 1)) 0 (g 0 * b % 10007))) q 2 := by
              rw [hS]
              exact (Out.ar (by omega) (by omega)).trans (Out.ar (by omega) (by omega))
            revert e3 ho2
            generalize arS S2 (q + 1) (va_up (S2.1 (q + 1)) 0 (g 0 * b % 10007)) = S4
            intro e3 ho2
            refine r_cVv X lv_Poly_28 (c_trim hp0 (fun i _ => by rw [e3]; exact (mt_ok n b g).1 i)) (by assumption) (by decide) rfl (Nat.le_of_ble_eq_true rfl) d_Poly_multiplyBy_85 rfl (fun S5 h5 => ?_)
            subst h5
            refine r_iincN X 1 d_Poly_multiplyBy_88 (by rfl) (by decide) (by decide) ?_
            refine r_goto X d_Poly_multiplyBy_91 (tgt := 2) (by decide) ?_
            refine ih (u + 1) (mt n b g) _ _ (by omega) (mt_ok n b g) (pIs_trim e3) ((ho.trans ho2).trans (Out.fd (by omega) (by omega))) he
          · omega
        | succ i ihi =>
          intro S2 hi hS
          have e1 : S2.1 (q + 1) (i + 1) = g (i + 1) := by rw [hS, arS_1, if_neg (by omega)]
          have e1' : S2.1 (q + 1) i = g i := by rw [hS, arS_1, if_neg (by omega)]
          have b1 := hg.1 (i + 1)
          have b2 := hg.1 i
          have hm := mul_bd b1 hb7
          refine r_iload X d_Poly_multiplyBy_25 (by rfl) ?_
          refine r_if_leN X d_Poly_multiplyBy_27 (tgt := 66) (by decide) (by omega) (fun hc => ?_) (fun hc => ?_)
          · omega
          · refine r_aload_n X d_Poly_multiplyBy_30 (by rfl) ?_
            refine r_get X lf_Poly_9 d_Poly_multiplyBy_31 (by assumption) (by rfl) ?_
            refine r_iload X d_Poly_multiplyBy_34 (by rfl) ?_
            refine r_aload_n X d_Poly_multiplyBy_36 (by rfl) ?_
            refine r_get X lf_Poly_9 d_Poly_multiplyBy_37 (by assumption) (by rfl) ?_
            refine r_iload X d_Poly_multiplyBy_40 (by rfl) ?_
            refine r_iald X d_Poly_multiplyBy_42 (by assumption) (by omega) (by omega) ?_
            rw [e1]
            refine r_iload_n X d_Poly_multiplyBy_43 (by rfl) ?_
            first | refine r_imulN X d_Poly_multiplyBy_44 ?_ | refine r_imul X d_Poly_multiplyBy_44 ?_
            refine r_aload_n X d_Poly_multiplyBy_45 (by rfl) ?_
            refine r_get X lf_Poly_9 d_Poly_multiplyBy_46 (by assumption) (by rfl) ?_
            refine r_iload X d_Poly_multiplyBy_49 (by rfl) ?_
            refine r_iconst X (x := (nI 1)) d_Poly_multiplyBy_51 (by decide) ?_
            first | refine r_isubN X d_Poly_multiplyBy_52 (by omega) ?_ | refine r_isub X d_Poly_multiplyBy_52 ?_
            refine r_int (y := nI i) (by rw [show i + 1 - 1 = i by omega]) ?_
            refine r_iald X d_Poly_multiplyBy_53 (by assumption) (by omega) (by omega) ?_
            rw [e1']
            first | refine r_iaddN X d_Poly_multiplyBy_54 ?_ | refine r_iadd X d_Poly_multiplyBy_54 ?_
            refine r_sipush X (x := (nI 10007)) d_Poly_multiplyBy_55 (by decide) ?_
            refine r_iremN X d_Poly_multiplyBy_58 (by decide) (by decide) (by omega) ?_
            refine r_iast X d_Poly_multiplyBy_59 (by assumption) (by omega) (by omega) ?_
            refine r_iincD X d_Poly_multiplyBy_60 (by rfl) (by decide) ?_
            refine r_goto X d_Poly_multiplyBy_63 (tgt := 25) (by decide) ?_
            refine r_forget X (L' := [some (.ref q), some (.int (nI b)), some (.int (nI t)), some (.int (nI u)), some (.int (nI i))]) ?_ (ihi _ (by omega) ?_)
            · intro k w hk
              rw [tI_s i]
              exact hk
            · rw [hS, arS_arS, arS_1, ← up_ge (mt n b g) g (i + 1)]
              congr 2
              unfold mt
              rw [if_pos (by omega), if_neg (by omega), show i + 1 - 1 = i by omega]
      refine r_iload_n X d_Poly_multiplyBy_2 (by rfl) ?_
      refine r_iload_n X d_Poly_multiplyBy_3 (by rfl) ?_
      refine r_icmp_geN X d_Poly_multiplyBy_4 (tgt := 94) (by decide) (by omega) (by omega) (fun hc => ?_) (fun hc => ?_)
      · omega
      · refine r_aload_n X d_Poly_multiplyBy_7 (by rfl) ?_
        refine r_get X lf_Poly_15 d_Poly_multiplyBy_8 (by assumption) (by rfl) ?_
        rw [hs2]
        refine r_iconst X (x := nI 1) d_Poly_multiplyBy_11 (by decide) ?_
        refine r_iadd X d_Poly_multiplyBy_12 ?_
        refine r_int (tI_add _) ?_
        refine r_aload_n X d_Poly_multiplyBy_13 (by rfl) ?_
        refine r_get X lf_Poly_9 d_Poly_multiplyBy_14 (by assumption) (by rfl) ?_
        refine r_alen X d_Poly_multiplyBy_17 (by assumption) ?_
        refine r_iconst X (x := (nI 1)) d_Poly_multiplyBy_18 (by decide) ?_
        first | refine r_isubN X d_Poly_multiplyBy_19 (by omega) ?_ | refine r_isub X d_Poly_multiplyBy_19 ?_
        refine r_mminN X lm_Poly_31 (by decide) (Nat.le_of_ble_eq_true rfl) (by omega) (by omega) d_Poly_multiplyBy_20 ?_
        refine r_istore X d_Poly_multiplyBy_23 (by decide) ?_
        refine inner _ _ (by omega) ?_
        rw [show (fun j => if min (tp g n) (n - 1) + 1 ≤ j then mt n b g j else g j) = g by
          funext j
          split
          · next h =>
            by_cases hj : j < n
            · rw [hg.tz (by omega), mt_hi (hg.tz (by omega)) (fun _ => hg.tz (by omega))]
            · rw [hg.2 j (by omega), (mt_ok n b g).2 j (by omega)]
          · rfl, ← hs1, arS_id]
  refine r_iconst X (x := (nI 0)) d_Poly_multiplyBy_0 (by decide) ?_
  refine r_istore_n X d_Poly_multiplyBy_1 (by decide) ?_
  exact loop t 0 f S _ (by omega) hf hs (Out.rf _ _ _) rfl
def cvr (f g : Nat → Nat) : Nat → Nat → Nat
  | 0, _ => 0
  | i + 1, k => if i ≤ k then (cvr f g i k + f i * g (k - i)) % 10007 else cvr f g i k
theorem cvr_lt (f g : Nat → Nat) (i k : Nat) : cvr f g i k < 10007 := by
  induction i with
  | zero => exact (by decide : 0 < 10007)
  | succ i ih =>
    unfold cvr
    split
    · exact Nat.mod_lt _ (by decide)
    · exact ih
theorem cvr_more {f : Nat → Nat} (g : Nat → Nat) {n : Nat} (k : Nat) (h : ∀ i, n ≤ i → f i = 0) : ∀ m, cvr f g (n + m) k = cvr f g n k := by
  intro m
  induction m with
  | zero => rfl
  | succ m ih =>
    show (if n + m ≤ k then (cvr f g (n + m) k + f (n + m) * g (k - (n + m))) % 10007 else cvr f g (n + m) k) = _
    rw [ih, h (n + m) (by omega)]
    have := cvr_lt f g n k
    split
    · simp
      omega
    · rfl
def prd (n m : Nat) (f g : Nat → Nat) : Nat → Nat := fun k => if k < n then cvr f g m k else 0
theorem prd_ok (n m : Nat) (f g : Nat → Nat) : okP n (prd n m f g) := by
  refine ⟨fun i => ?_, fun i hi => ?_⟩
  · unfold prd
    split
    · exact cvr_lt _ _ _ _
    · decide
  · unfold prd
    rw [if_neg (by omega)]
set_option maxHeartbeats 4000000 in
set_option maxRecDepth 100000 in
theorem c_pproduct {q n qa na qb nb : Nat} {f g : Nat → Nat} (hp : isP G q n) (hpa : isP G qa na) (hpb : isP G qb nb) (hna : q ≠ qa) (hnb : q ≠ qb) (hf : okP na f) (hg : okP nb g) (hsa : pIs S qa na f) (hsb : pIs S qb nb g) : CT (mkE l D cI cT) G y_Poly_becomeProduct b_Poly_becomeProduct 5 none 2 [.ref q, .ref qa, .ref qb] S (Pv (fun S' => pIs S' q n (prd n na f g) ∧ Out S S' q 2)) := by
  have hp0 := hp
  have sa := hp.sep hpa hna
  have sb := hp.sep hpb hnb
  obtain ⟨hq, ha, hn2, hnn⟩ := hp
  obtain ⟨hqa, haa, hna2, hnna⟩ := hpa
  obtain ⟨hqb, hab, hnb2, hnnb⟩ := hpb
  have htf := tp_le f na
  have htg := tp_le g nb
  refine mk_v (by decide) (eok l D cI cT) (by simp [Value.category]) (Nat.le_of_ble_eq_true rfl) (fun J X hR => ?_)
  show J S 0 [some (.ref q), some (.ref qa), some (.ref qb), none, none] []
  refine r_aload_n X d_Poly_becomeProduct_0 (by rfl) ?_
  refine r_cVv X lv_Poly_25 (c_clear hp0) (by assumption) (by decide) rfl (Nat.le_of_ble_eq_true rfl) d_Poly_becomeProduct_1 rfl (fun S1 h1 => ?_)
  obtain ⟨⟨h1, h2⟩, ho⟩ := h1
  have hsa := hsa.out ho (by omega)
  have hsb := hsb.out ho (by omega)
  obtain ⟨ha1, ha2⟩ := hsa
  obtain ⟨hb1, hb2⟩ := hsb
  have loop : ∀ m i S2 v, i + m = tp f na → S2 = arS S1 (q + 1) (prd n i f g) → J S2 6 [some (.ref q), some (.ref qa), some (.ref qb), some (.int (nI i)), v] [] := by
    intro m
    induction m with
    | zero =>
      intro i S2 v hi hS
      have e2 : S2.2 qa = tI (tp f na) := by rw [hS]; exact ha2
      refine r_iload_n X d_Poly_becomeProduct_6 (by rfl) ?_
      refine r_aload_n X d_Poly_becomeProduct_7 (by rfl) ?_
      refine r_get X lf_Poly_15 d_Poly_becomeProduct_8 (by assumption) (by rfl) ?_
      rw [e2]
      refine r_icmp_gtT X d_Poly_becomeProduct_11 (tgt := 87) (by decide) (by omega) (by omega) (fun hc => ?_) (fun hc => ?_)
      · refine r_aload_n X d_Poly_becomeProduct_87 (by rfl) ?_
        have e3 : S2.1 (q + 1) = prd n na f g := by
          rw [hS, arS_1]
          funext k
          unfold prd
          rw [show na = i + (na - i) by omega, cvr_more g k (fun j hj => hf.tz (by omega))]
        refine r_cVv X lv_Poly_28 (c_trim hp0 (fun i _ => by rw [e3]; exact (prd_ok n na f g).1 i)) (by assumption) (by decide) rfl (Nat.le_of_ble_eq_true rfl) d_Poly_becomeProduct_88 rfl (fun S5 h5 => ?_)
        subst h5
        refine hR _ _ _ d_Poly_becomeProduct_91 ⟨rfl, pIs_trim e3, ?_⟩
        rw [hS]
        exact (ho.trans (Out.ar (by omega) (by omega))).trans (Out.fd (by omega) (by omega))
      · omega
    | succ m ih =>
      intro i S2 v hi hS
      have e2 : S2.2 qa = tI (tp f na) := by rw [hS]; exact ha2
      have inner : ∀ k j S3, j + k = tp g nb → S3 = arS S1 (q + 1) (fun x => if x < i + j then prd n (i + 1) f g x else prd n i f g x) → J S3 17 [some (.ref q), some (.ref qa), some (.ref qb), some (.int (nI i)), some (.int (nI j))] [] := by
        intro k
        induction k with
        | zero =>
          intro j S3 hj hS3
          have e5 : S3.2 qb = tI (tp g nb) := by rw [hS3]; exact hb2
          refine r_iload X d_Poly_becomeProduct_17 (by rfl) ?_
          refine r_aload_n X d_Poly_becomeProduct_19 (by rfl) ?_
          refine r_get X lf_Poly_15 d_Poly_becomeProduct_20 (by assumption) (by rfl) ?_
          rw [e5]
          refine r_icmp_gtT X d_Poly_becomeProduct_23 (tgt := 81) (by decide) (by omega) (by omega) (fun hc => ?_) (fun hc => ?_)
          · refine r_iincN X 1 d_Poly_becomeProduct_81 (by rfl) (by decide) (by decide) ?_
            refine r_goto X d_Poly_becomeProduct_84 (tgt := 6) (by decide) ?_
            refine ih (i + 1) _ _ (by omega) ?_
            rw [hS3]
            congr 1
            funext x
            split
            · rfl
            · unfold prd
              split
              · show _ = if i ≤ x then (cvr f g i x + f i * g (x - i)) % 10007 else cvr f g i x
                have := cvr_lt f g i x
                rw [if_pos (by omega), hg.tz (i := x - i) (by omega)]
                simp
                omega
              · rfl
          · omega
        | succ k ihk =>
          intro j S3 hj hS3
          have e5 : S3.2 qb = tI (tp g nb) := by rw [hS3]; exact hb2
          refine r_iload X d_Poly_becomeProduct_17 (by rfl) ?_
          refine r_aload_n X d_Poly_becomeProduct_19 (by rfl) ?_
          refine r_get X lf_Poly_15 d_Poly_becomeProduct_20 (by assumption) (by rfl) ?_
          rw [e5]
          refine r_icmp_gtT X d_Poly_becomeProduct_23 (tgt := 81) (by decide) (by omega) (by omega) (fun hc => ?_) (fun hc => ?_)
          · omega
          · refine r_iload_n X d_Poly_becomeProduct_26 (by rfl) ?_
            refine r_iload X d_Poly_becomeProduct_27 (by rfl) ?_
            first | refine r_iaddN X d_Poly_becomeProduct_29 ?_ | refine r_iadd X d_Poly_becomeProduct_29 ?_
            refine r_aload_n X d_Poly_becomeProduct_30 (by rfl) ?_
            refine r_get X lf_Poly_9 d_Poly_becomeProduct_31 (by assumption) (by rfl) ?_
            refine r_alen X d_Poly_becomeProduct_34 (by assumption) ?_
            refine r_icmp_geN X d_Poly_becomeProduct_35 (tgt := 81) (by decide) (by omega) (by omega) (fun hc => ?_) (fun hc => ?_)
            · refine r_iincN X 1 d_Poly_becomeProduct_81 (by rfl) (by decide) (by decide) ?_
              refine r_goto X d_Poly_becomeProduct_84 (tgt := 6) (by decide) ?_
              refine ih (i + 1) _ _ (by omega) ?_
              rw [hS3]
              congr 1
              funext x
              split
              · rfl
              · unfold prd
                rw [if_neg (by omega), if_neg (by omega)]
            · have b1 := hf.1 i
              have b2 := hg.1 j
              have b3 := cvr_lt f g i (i + j)
              have hm := mul_bd b1 b2
              have e6 : S3.1 (q + 1) (i + j) = cvr f g i (i + j) := by
                rw [hS3, arS_1, if_neg (by omega)]
                unfold prd
                rw [if_pos (by omega)]
              have e7 : S3.1 (qa + 1) i = f i := by rw [hS3, arS_1n (by omega), ha1]
              have e8 : S3.1 (qb + 1) j = g j := by rw [hS3, arS_1n (by omega), hb1]
              refine r_aload_n X d_Poly_becomeProduct_38 (by rfl) ?_
              refine r_get X lf_Poly_9 d_Poly_becomeProduct_39 (by assumption) (by rfl) ?_
              refine r_iload_n X d_Poly_becomeProduct_42 (by rfl) ?_
              refine r_iload X d_Poly_becomeProduct_43 (by rfl) ?_
              first | refine r_iaddN X d_Poly_becomeProduct_45 ?_ | refine r_iadd X d_Poly_becomeProduct_45 ?_
              refine r_aload_n X d_Poly_becomeProduct_46 (by rfl) ?_
              refine r_get X lf_Poly_9 d_Poly_becomeProduct_47 (by assumption) (by rfl) ?_
              refine r_iload_n X d_Poly_becomeProduct_50 (by rfl) ?_
              refine r_iload X d_Poly_becomeProduct_51 (by rfl) ?_
              first | refine r_iaddN X d_Poly_becomeProduct_53 ?_ | refine r_iadd X d_Poly_becomeProduct_53 ?_
              refine r_iald X d_Poly_becomeProduct_54 (by assumption) (by omega) (by omega) ?_
              refine r_aload_n X d_Poly_becomeProduct_55 (by rfl) ?_
              refine r_get X lf_Poly_9 d_Poly_becomeProduct_56 (by assumption) (by rfl) ?_
              refine r_iload_n X d_Poly_becomeProduct_59 (by rfl) ?_
              refine r_iald X d_Poly_becomeProduct_60 (by assumption) (by omega) (by omega) ?_
              refine r_aload_n X d_Poly_becomeProduct_61 (by rfl) ?_
              refine r_get X lf_Poly_9 d_Poly_becomeProduct_62 (by assumption) (by rfl) ?_
              refine r_iload X d_Poly_becomeProduct_65 (by rfl) ?_
              refine r_iald X d_Poly_becomeProduct_67 (by assumption) (by omega) (by omega) ?_
              rw [e6, e7, e8]
              first | refine r_imulN X d_Poly_becomeProduct_68 ?_ | refine r_imul X d_Poly_becomeProduct_68 ?_
              first | refine r_iaddN X d_Poly_becomeProduct_69 ?_ | refine r_iadd X d_Poly_becomeProduct_69 ?_
              refine r_sipush X (x := (nI 10007)) d_Poly_becomeProduct_70 (by decide) ?_
              refine r_iremN X d_Poly_becomeProduct_73 (by decide) (by decide) (by omega) ?_
              refine r_iast X d_Poly_becomeProduct_74 (by assumption) (by omega) (by omega) ?_
              refine r_iincN X 1 d_Poly_becomeProduct_75 (by rfl) (by decide) (by decide) ?_
              refine r_goto X d_Poly_becomeProduct_78 (tgt := 17) (by decide) ?_
              refine ihk (j + 1) _ (by omega) ?_
              rw [hS3, arS_arS, arS_1]
              congr 1
              have e9 : (cvr f g i (i + j) + f i * g j) % 10007 = prd n (i + 1) f g (i + j) := by
                unfold prd
                rw [if_pos (by omega)]
                show _ = if i ≤ i + j then (cvr f g i (i + j) + f i * g (i + j - i)) % 10007 else cvr f g i (i + j)
                rw [if_pos (by omega), show i + j - i = j by omega]
              rw [e9, up_lt (prd n (i + 1) f g) (prd n i f g) (i + j)]
              rfl
      refine r_iload_n X d_Poly_becomeProduct_6 (by rfl) ?_
      refine r_aload_n X d_Poly_becomeProduct_7 (by rfl) ?_
      refine r_get X lf_Poly_15 d_Poly_becomeProduct_8 (by assumption) (by rfl) ?_
      rw [e2]
      refine r_icmp_gtT X d_Poly_becomeProduct_11 (tgt := 87) (by decide) (by omega) (by omega) (fun hc => ?_) (fun hc => ?_)
      · omega
      · refine r_iconst X (x := (nI 0)) d_Poly_becomeProduct_14 (by decide) ?_
        refine r_istore X d_Poly_becomeProduct_15 (by decide) ?_
        refine inner (tp g nb) 0 _ (by omega) ?_
        rw [hS]
        congr 1
        funext x
        split
        · unfold prd
          split
          · show _ = if i ≤ x then (cvr f g i x + f i * g (x - i)) % 10007 else cvr f g i x
            rw [if_neg (by omega)]
          · rfl
        · rfl
  refine r_iconst X (x := (nI 0)) d_Poly_becomeProduct_4 (by decide) ?_
  refine r_istore_n X d_Poly_becomeProduct_5 (by decide) ?_
  refine loop (tp f na) 0 _ _ (by omega) ?_
  rw [show prd n 0 f g = S1.1 (q + 1) by
    rw [h1]
    funext k
    unfold prd
    split <;> rfl, arS_id]
def psn (n i : Nat) (c : Nat → Nat) : Nat → Nat := fun j => if i ≤ j then hn c 1 (n - j) j else c j
def tyl (n : Nat) : Nat → (Nat → Nat) → Nat → Nat
  | 0, f => f
  | k + 1, f => psn n k (tyl n k f)
theorem psn_ok {n i : Nat} {c : Nat → Nat} (h : okP n c) : okP n (psn n i c) := by
  refine ⟨fun j => ?_, fun j hj => ?_⟩
  · unfold psn
    split
    · exact hn_lt _ _ _ _
    · exact h.1 j
  · unfold psn
    split
    · rw [show n - j = 0 by omega]
      rfl
    · exact h.2 j hj
theorem tyl_ok {n : Nat} {f : Nat → Nat} (h : okP n f) : ∀ k, okP n (tyl n k f)
  | 0 => h
  | k + 1 => psn_ok (tyl_ok h k)
theorem hn1_top {c : Nat → Nat} {n t : Nat} (h : okP n c) (ht : t < n) (hz : ∀ j, t < j → c j = 0) : hn c 1 (n - t) t = c t := by
  rw [show n - t = (n - (t + 1)) + 1 by omega]
  show (hn c 1 (n - (t + 1)) (t + 1) * 1 + c t) % 10007 = c t
  rw [hn_0 (fun j hj => hz j (by omega))]
  have := h.1 t
  omega
theorem psn_top {n i t : Nat} {c : Nat → Nat} (h : okP n c) (ht : t < n) (hz : ∀ j, t < j → c j = 0) : ∀ j, t ≤ j → psn n i c j = c j := by
  intro j hj
  unfold psn
  split
  · by_cases e : j = t
    · rw [e]; exact hn1_top h ht hz
    · rw [hz j (by omega)]
      exact hn_0 (fun k hk => hz k (by omega))
  · rfl
theorem tyl_top {n t : Nat} {f : Nat → Nat} (h : okP n f) (ht : t < n) (hz : ∀ j, t < j → f j = 0) : ∀ k j, t ≤ j → tyl n k f j = f j := by
  intro k
  induction k with
  | zero => intro j _; rfl
  | succ k ih =>
    intro j hj
    show psn n k (tyl n k f) j = f j
    rw [psn_top (tyl_ok h k) ht (fun i hi => by rw [ih i (by omega)]; exact hz i hi) j hj]
    exact ih j hj
theorem tyl_tp {n : Nat} {f : Nat → Nat} (h : okP n f) (k : Nat) : tp (tyl n k f) n = tp f n := by
  have htp := tp_le f n
  cases ht : tp f n with
  | zero =>
    have hf0 : ∀ j, f j = 0 := fun j => h.tz (by omega)
    refine tp_eq (by omega) (fun i _ hi => ?_) (fun h => by omega)
    rw [tyl_top h (t := 0) (by omega) (fun j _ => hf0 j) k i (by omega)]
    exact hf0 i
  | succ t =>
    have hz : ∀ j, t < j → f j = 0 := fun j hj => h.tz (by omega)
    refine tp_eq (by omega) (fun i hi _ => ?_) (fun _ => ?_)
    · rw [tyl_top h (t := t) (by omega) hz k i (by omega)]
      exact hz i (by omega)
    · rw [show t + 1 - 1 = t by omega, tyl_top h (t := t) (by omega) hz k t (by omega)]
      have := tp_nz (f := f) (n := n) (by omega)
      rw [ht] at this
      exact this
theorem tyl_more {n t : Nat} {f : Nat → Nat} (h : okP n f) (ht : t < n) (hz : ∀ j, t < j → f j = 0) : ∀ m, tyl n (t + m) f = tyl n t f := by
  intro m
  induction m with
  | zero => rfl
  | succ m ih =>
    show psn n (t + m) (tyl n (t + m) f) = tyl n t f
    rw [ih]
    funext j
    by_cases hj : t ≤ j
    · exact psn_top (tyl_ok h t) ht (fun i hi => by rw [tyl_top h ht hz t i (by omega)]; exact hz i hi) j hj
    · unfold psn
      rw [if_neg (by omega)]
set_option maxHeartbeats 4000000 in
set_option maxRecDepth 100000 in
theorem c_moveOn {q n : Nat} {f : Nat → Nat} (hp : isP G q n) (hf : okP n f) (hs : pIs S q n f) : CT (mkE l D cI cT) G y_Poly_moveOn b_Poly_moveOn 3 none 0 [.ref q] S (Pv (fun S' => pIs S' q n (tyl n n f) ∧ Out S S' q 2)) := by
  obtain ⟨hq, ha, hn2, hnn⟩ := hp
  obtain ⟨hs1, hs2⟩ := hs
  have htp := tp_le f n
  refine mk_v (by decide) (eok l D cI cT) (by simp [Value.category]) (Nat.le_of_ble_eq_true rfl) (fun J X hR => ?_)
  show J S 0 [some (.ref q), none, none] []
  have fin : ∀ i v S1, tp f n ≤ i + 1 → i ≤ n → S1 = arS S (q + 1) (tyl n i f) → J S1 59 [some (.ref q), some (.int (nI i)), v] [] := by
    intro i v S1 hi hin hS
    have e3 : tyl n n f = tyl n i f := by
      by_cases h : i < n
      · rw [show n = i + (n - i) by omega]
        exact (tyl_more (by rw [← show n = i + (n - i) by omega]; exact hf) (by omega) (fun j hj => hf.tz (by omega)) (n - i))
      · rw [show i = n by omega]
    refine hR _ _ _ d_Poly_moveOn_59 ⟨rfl, ⟨?_, ?_⟩, ?_⟩
    · rw [hS, arS_1, e3]
    · rw [hS, tyl_tp hf]
      exact hs2
    · rw [hS]
      exact Out.ar (by omega) (by omega)
  have loop : ∀ m i v S1, i + m = tp f n → S1 = arS S (q + 1) (tyl n i f) → J S1 2 [some (.ref q), some (.int (nI i)), v] [] := by
    intro m
    induction m with
    | zero =>
      intro i v S1 hi hS
      have e2 : S1.2 q = tI (tp f n) := by rw [hS]; exact hs2
      refine r_iload_n X d_Poly_moveOn_2 (by rfl) ?_
      refine r_aload_n X d_Poly_moveOn_3 (by rfl) ?_
      refine r_get X lf_Poly_15 d_Poly_moveOn_4 (by assumption) (by rfl) ?_
      rw [e2]
      refine r_icmp_geT X d_Poly_moveOn_7 (tgt := 59) (by decide) (by omega) (by omega) (fun hc => ?_) (fun hc => ?_)
      · exact fin i v S1 hc (by omega) hS
      · omega
    | succ m ih =>
      intro i v S1 hi hS
      have e2 : S1.2 q = tI (tp f n) := by rw [hS]; exact hs2
      refine r_iload_n X d_Poly_moveOn_2 (by rfl) ?_
      refine r_aload_n X d_Poly_moveOn_3 (by rfl) ?_
      refine r_get X lf_Poly_15 d_Poly_moveOn_4 (by assumption) (by rfl) ?_
      rw [e2]
      refine r_icmp_geT X d_Poly_moveOn_7 (tgt := 59) (by decide) (by omega) (by omega) (fun hc => ?_) (fun hc => ?_)
      · exact fin i v S1 hc (by omega) hS
      · have hok := tyl_ok hf i
        have inner : ∀ d j S2, j = i + d → j < tp f n → S2 = arS S (q + 1) (fun x => if j ≤ x then psn n i (tyl n i f) x else tyl n i f x) → J S2 17 [some (.ref q), some (.int (nI i)), some (.int (tI j))] [] := by
          intro d
          induction d with
          | zero =>
            intro j S2 hj hjt hS2
            refine r_iload_n X d_Poly_moveOn_17 (by rfl) ?_
            refine r_iload_n X d_Poly_moveOn_18 (by rfl) ?_
            refine r_icmp_lt X d_Poly_moveOn_19 (tgt := 53) (by decide) (fun hc2 => ?_) (fun hc2 => ?_)
            · refine r_iincN X 1 d_Poly_moveOn_53 (by rfl) (by decide) (by decide) ?_
              refine r_goto X d_Poly_moveOn_56 (tgt := 2) (by decide) ?_
              refine ih (i + 1) _ _ (by omega) ?_
              rw [hS2]
              congr 1
              funext x
              show _ = psn n i (tyl n i f) x
              split
              · rfl
              · unfold psn
                rw [if_neg (by omega)]
            · refine absurd ?_ hc2
              rw [Int32.lt_iff_toInt_lt, tI_toInt (by omega), nI_toInt (by omega)]
              omega
          | succ d ihd =>
            intro j S2 hj hjt hS2
            refine r_iload_n X d_Poly_moveOn_17 (by rfl) ?_
            refine r_iload_n X d_Poly_moveOn_18 (by rfl) ?_
            refine r_icmp_lt X d_Poly_moveOn_19 (tgt := 53) (by decide) (fun hc2 => ?_) (fun hc2 => ?_)
            · rw [Int32.lt_iff_toInt_lt, tI_toInt (by omega), nI_toInt (by omega)] at hc2
              omega
            · have hj1 : j = (i + d) + 1 := by omega
              rw [hj1, tI_s]
              have e6 : S2.1 (q + 1) (i + d) = tyl n i f (i + d) := by rw [hS2, arS_1, if_neg (by omega)]
              have e7 : S2.1 (q + 1) (i + d + 1) = hn (tyl n i f) 1 (n - (i + d + 1)) (i + d + 1) := by
                rw [hS2, arS_1, if_pos (by omega)]
                unfold psn
                rw [if_pos (by omega)]
              have b1 := hok.1 (i + d)
              have b2 := hn_lt (tyl n i f) 1 (n - (i + d + 1)) (i + d + 1)
              refine r_aload_n X d_Poly_moveOn_22 (by rfl) ?_
              refine r_get X lf_Poly_9 d_Poly_moveOn_23 (by assumption) (by rfl) ?_
              refine r_iload_n X d_Poly_moveOn_26 (by rfl) ?_
              refine r_aload_n X d_Poly_moveOn_27 (by rfl) ?_
              refine r_get X lf_Poly_9 d_Poly_moveOn_28 (by assumption) (by rfl) ?_
              refine r_iload_n X d_Poly_moveOn_31 (by rfl) ?_
              refine r_iald X d_Poly_moveOn_32 (by assumption) (by omega) (by omega) ?_
              refine r_aload_n X d_Poly_moveOn_33 (by rfl) ?_
              refine r_get X lf_Poly_9 d_Poly_moveOn_34 (by assumption) (by rfl) ?_
              refine r_iload_n X d_Poly_moveOn_37 (by rfl) ?_
              refine r_iconst X (x := (nI 1)) d_Poly_moveOn_38 (by decide) ?_
              first | refine r_iaddN X d_Poly_moveOn_39 ?_ | refine r_iadd X d_Poly_moveOn_39 ?_
              refine r_iald X d_Poly_moveOn_40 (by assumption) (by omega) (by omega) ?_
              rw [e6, e7]
              first | refine r_iaddN X d_Poly_moveOn_41 ?_ | refine r_iadd X d_Poly_moveOn_41 ?_
              refine r_sipush X (x := (nI 10007)) d_Poly_moveOn_42 (by decide) ?_
              refine r_iremN X d_Poly_moveOn_45 (by decide) (by decide) (by omega) ?_
              refine r_iast X d_Poly_moveOn_46 (by assumption) (by omega) (by omega) ?_
              refine r_iincD X d_Poly_moveOn_47 (by rfl) (by decide) ?_
              refine r_goto X d_Poly_moveOn_50 (tgt := 17) (by decide) ?_
              refine ihd (i + d) _ rfl (by omega) ?_
              rw [hS2, arS_arS, arS_1, hj1]
              congr 1
              have e8 : (tyl n i f (i + d) + hn (tyl n i f) 1 (n - (i + d + 1)) (i + d + 1)) % 10007 = psn n i (tyl n i f) (i + d) := by
                unfold psn
                rw [if_pos (by omega), show n - (i + d) = (n - (i + d + 1)) + 1 by omega]
                show _ = (hn (tyl n i f) 1 (n - (i + d + 1)) (i + d + 1) * 1 + tyl n i f (i + d)) % 10007
                rw [Nat.mul_one, Nat.add_comm]
              rw [e8, up_ge (psn n i (tyl n i f)) (tyl n i f) (i + d)]
        refine r_aload_n X d_Poly_moveOn_10 (by rfl) ?_
        refine r_get X lf_Poly_15 d_Poly_moveOn_11 (by assumption) (by rfl) ?_
        rw [e2]
        rw [show tp f n = (tp f n - 1) + 1 by omega, tI_s]
        refine r_iconst X (x := nI 1) d_Poly_moveOn_14 (by decide) ?_
        refine r_isub X d_Poly_moveOn_15 ?_
        refine r_int (y := tI (tp f n - 1)) rfl ?_
        refine r_istore_n X d_Poly_moveOn_16 (by decide) ?_
        refine inner (tp f n - 1 - i) _ _ (by omega) (by omega) ?_
        rw [hS]
        congr 1
        funext x
        split
        · next h => exact (psn_top hok (t := tp f n - 1) (by omega) (fun y hy => by rw [tyl_top hf (t := tp f n - 1) (by omega) (fun z hz => hf.tz (by omega)) i y (by omega)]; exact hf.tz (by omega)) x h).symm
        · rfl
  refine r_iconst X (x := (nI 0)) d_Poly_moveOn_0 (by decide) ?_
  refine r_istore_n X d_Poly_moveOn_1 (by decide) ?_
  refine loop (tp f n) 0 _ _ (by omega) ?_
  show S = arS S (q + 1) f
  rw [← hs1, arS_id]
end P3
