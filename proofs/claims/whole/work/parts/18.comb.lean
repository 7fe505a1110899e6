section C1
variable {l : Launch} {D : va_G} {cI cT : ClassId} {G : Gm} {S : Sg}
def Ex (P : Nat → Prop) (S S' : Sg) : Prop := ∀ a, ¬ P a → S'.1 a = S.1 a ∧ S'.2 a = S.2 a
theorem Ex.rf (P : Nat → Prop) (S : Sg) : Ex P S S := fun _ _ => ⟨rfl, rfl⟩
theorem Ex.trans {P : Nat → Prop} {S S1 S2 : Sg} (h1 : Ex P S S1) (h2 : Ex P S1 S2) : Ex P S S2 := fun a ha => ⟨(h2 a ha).1.trans (h1 a ha).1, (h2 a ha).2.trans (h1 a ha).2⟩
theorem Ex.mono {P Q : Nat → Prop} {S S1 : Sg} (h : Ex P S S1) (hpq : ∀ a, P a → Q a) : Ex Q S S1 := fun a ha => h a (fun z => ha (hpq a z))
theorem Out.ex {S S1 : Sg} {q w : Nat} (h : Out S S1 q w) {P : Nat → Prop} (hp : ∀ a, q ≤ a → a < q + w → P a) : Ex P S S1 := fun a ha => h a (by
  by_cases h1 : a < q
  · exact Or.inl h1
  · by_cases h2 : a < q + w
    · exact absurd (hp a (by omega) h2) ha
    · exact Or.inr (by omega))
theorem pIs.ex {S S1 : Sg} {q n : Nat} {f : Nat → Nat} {P : Nat → Prop} (h : pIs S q n f) (hx : Ex P S S1) (hd : ∀ a, q ≤ a → a < q + 2 → ¬ P a) : pIs S1 q n f :=
  ⟨((hx (q + 1) (hd _ (by omega) (by omega))).1).trans h.1, ((hx q (hd _ (by omega) (by omega))).2).trans h.2⟩
theorem tIs.ex {S S1 : Sg} {t n z : Nat} {N e : Nat → Nat} {P : Nat → Prop} (h : tIs S t n N e z) (hx : Ex P S S1) (hd : ∀ a, t ≤ a → a < t + 4 → ¬ P a) : tIs S1 t n N e z :=
  ⟨h.1.ex hx (fun a h1 h2 => hd a (by omega) (by omega)), ((hx (t + 3) (hd _ (by omega) (by omega))).1).trans h.2.1, ((hx t (hd _ (by omega) (by omega))).2).trans h.2.2⟩
theorem isT.sepP {t n q m : Nat} (h1 : isT G t n) (h2 : isP G q m) (h : q ≠ t + 1) : t + 4 ≤ q ∨ q + 2 ≤ t := by
  have a1 := kObj_ne h1.1 h2.1 (by decide)
  have a2 := kArr_ne h2.1 h1.2.1.2.1
  have a3 := kArr_ne h2.1 h1.2.2
  have a4 := kArr_ne h1.1 h2.2.1
  omega
def isC (G : Gm) (c : Nat) : Prop := G c = some (kObj iComb (fun _ => [.ref (c + 1), .ref (c + 5)])) ∧ isT G (c + 1) 64 ∧ isP G (c + 5) 64
def wd (n : Nat) (d : Nat → Nat) : Nat → (Nat → Nat) → Nat → Nat
  | 0, f => f
  | k + 1, f => mtN n k (d k) (wd n d k f)
theorem wd_ok {n : Nat} {d : Nat → Nat} {f : Nat → Nat} (h : okP n f) : ∀ k, okP n (wd n d k f)
  | 0 => h
  | k + 1 => mtN_ok (wd_ok h k)
set_option maxHeartbeats 4000000 in
set_option maxRecDepth 100000 in
theorem c_addWidened {c t u m x z y : Nat} {N e M f : Nat → Nat} (hc : isC G c) (ht : isT G t 64) (hu : isT G u m) (htu : t ≠ u) (htc : c + 5 ≠ t + 1) (huc : c + 5 ≠ u + 1) (hN : okP 64 N) (hM : okP m M) (hE : okE e) (hF : okE f) (hfe : ∀ i, f i ≤ e i) (hx : x < 10007) (hs : tIs S t 64 N e z) (hs' : tIs S u m M f y) : CT (mkE l D cI cT) G y_Comb_addWidened b_Comb_addWidened 5 none 2 [.ref c, .ref t, .ref u, .int (nI x)] S (Pv (fun S' => tIs S' t 64 (ads 64 x N (wd 64 (fun i => e i - f i) 9 (cut 64 M))) e z ∧ Ex (fun a => (t + 1 ≤ a ∧ a < t + 3) ∨ (c + 5 ≤ a ∧ a < c + 7)) S S')) := by
  have hsw := ht.sepP hc.2.2 htc
  have hsu := hu.sepP hc.2.2 huc
  have htu' := ht.sep hu htu
  obtain ⟨hC, hnx, hpw⟩ := hc
  have hpw0 := hpw
  obtain ⟨hqw, haw, -, -⟩ := hpw
  obtain ⟨hT, hpp, he⟩ := ht
  have hpp0 := hpp
  obtain ⟨hq, ha, -, -⟩ := hpp
  obtain ⟨hU, hpu, hue⟩ := hu
  have hpu0 := hpu
  obtain ⟨hqu, hau, hm2, hm64⟩ := hpu
  refine mk_v (by decide) (eok l D cI cT) (by simp [Value.category]) (Nat.le_of_ble_eq_true rfl) (fun J X hR => ?_)
  show J S 0 [some (.ref c), some (.ref t), some (.ref u), some (.int (nI x)), none] []
  refine r_aload_n X d_Comb_addWidened_0 (by rfl) ?_
  refine r_get X lf_Comb_23 d_Comb_addWidened_1 (by assumption) (by rfl) ?_
  refine r_aload_n X d_Comb_addWidened_4 (by rfl) ?_
  refine r_get X lf_Comb_45 d_Comb_addWidened_5 (by assumption) (by rfl) ?_
  refine r_cVv X lv_Comb_66 (c_copyFrom hpw0 hpu0 huc hM hs'.1.1) (by assumption) (by decide) rfl (Nat.le_of_ble_eq_true rfl) d_Comb_addWidened_8 rfl (fun S1 h1 => ?_)
  obtain ⟨h1, ho1⟩ := h1
  have hcut := cut_ok 64 hM.1
  have loop : ∀ j b S2, b + j = 9 → pIs S2 (c + 5) 64 (wd 64 (fun i => e i - f i) b (cut 64 M)) → Out S S2 (c + 5) 2 → J S2 14 [some (.ref c), some (.ref t), some (.ref u), some (.int (nI x)), some (.int (nI b))] [] := by
    intro j
    induction j with
    | zero =>
      intro b S2 hb hw ho
      have hb9 : b = 9 := by omega
      subst hb9
      have hs2 := hs.out ho (by omega)
      refine r_iload X d_Comb_addWidened_14 (by rfl) ?_
      refine r_bipush X (x := (nI 8)) d_Comb_addWidened_16 (by decide) ?_
      refine r_icmp_gtN X d_Comb_addWidened_18 (tgt := 51) (by decide) (by omega) (by omega) (fun hc => ?_) (fun hc => ?_)
      · refine r_aload_n X d_Comb_addWidened_51 (by rfl) ?_
        refine r_get X lf_Comb_45 d_Comb_addWidened_52 (by assumption) (by rfl) ?_
        refine r_aload_n X d_Comb_addWidened_55 (by rfl) ?_
        refine r_get X lf_Comb_23 d_Comb_addWidened_56 (by assumption) (by rfl) ?_
        refine r_iload_n X d_Comb_addWidened_59 (by rfl) ?_
        refine r_cVv X lv_Comb_74 (c_addScaled hpp0 hpw0 (fun z => htc z.symm) hN (wd_ok hcut 9) hs2.1.1 hw.1 hx) (by assumption) (by decide) rfl (Nat.le_of_ble_eq_true rfl) d_Comb_addWidened_60 rfl (fun S3 h3 => ?_)
        obtain ⟨h3, ho3⟩ := h3
        refine hR _ _ _ d_Comb_addWidened_63 ⟨rfl, ⟨h3, ?_, ?_⟩, ?_⟩
        · rw [ho3.a1 (by omega)]; exact hs2.2.1
        · rw [ho3.a2 (by omega)]; exact hs2.2.2
        · exact (ho.ex (fun a h1 h2 => Or.inr ⟨h1, by omega⟩)).trans (ho3.ex (fun a h1 h2 => Or.inl ⟨h1, by omega⟩))
      · omega
    | succ j ih =>
      intro b S2 hb hw ho
      have hs2 := hs.out ho (by omega)
      have hs2' := hs'.out ho (by omega)
      have hle := hfe b
      have h100 := hE.1 b
      refine r_iload X d_Comb_addWidened_14 (by rfl) ?_
      refine r_bipush X (x := (nI 8)) d_Comb_addWidened_16 (by decide) ?_
      refine r_icmp_gtN X d_Comb_addWidened_18 (tgt := 51) (by decide) (by omega) (by omega) (fun hc => ?_) (fun hc => ?_)
      · omega
      · refine r_aload_n X d_Comb_addWidened_21 (by rfl) ?_
        refine r_get X lf_Comb_23 d_Comb_addWidened_22 (by assumption) (by rfl) ?_
        refine r_iload X d_Comb_addWidened_25 (by rfl) ?_
        refine r_aload_n X d_Comb_addWidened_27 (by rfl) ?_
        refine r_get X lf_Comb_35 d_Comb_addWidened_28 (by assumption) (by rfl) ?_
        refine r_iload X d_Comb_addWidened_31 (by rfl) ?_
        refine r_iald X d_Comb_addWidened_33 (by assumption) (by omega) (by omega) ?_
        refine r_aload_n X d_Comb_addWidened_34 (by rfl) ?_
        refine r_get X lf_Comb_35 d_Comb_addWidened_35 (by assumption) (by rfl) ?_
        refine r_iload X d_Comb_addWidened_38 (by rfl) ?_
        refine r_iald X d_Comb_addWidened_40 (by assumption) (by omega) (by omega) ?_
        rw [hs2.2.1, hs2'.2.1]
        first | refine r_isubN X d_Comb_addWidened_41 (by omega) ?_ | refine r_isub X d_Comb_addWidened_41 ?_
        refine r_cVv X lv_Comb_70 (c_multiplyBy (b := b) (t := e b - f b) hpw0 (wd_ok hcut b) hw (by omega) (by omega)) (by assumption) (by decide) rfl (Nat.le_of_ble_eq_true rfl) d_Comb_addWidened_42 rfl (fun S3 h3 => ?_)
        obtain ⟨h3, ho3⟩ := h3
        refine r_iincN X 1 d_Comb_addWidened_45 (by rfl) (by decide) (by decide) ?_
        refine r_goto X d_Comb_addWidened_48 (tgt := 14) (by decide) ?_
        exact ih (b + 1) S3 (by omega) h3 (ho.trans ho3)
  refine r_iconst X (x := (nI 0)) d_Comb_addWidened_11 (by decide) ?_
  refine r_istore X d_Comb_addWidened_12 (by decide) ?_
  exact loop 9 0 S1 (by omega) h1 ho1
theorem ads_0 {n : Nat} {g : Nat → Nat} (hg : okP n g) : ads n 1 (fun _ => 0) g = g := by
  funext i
  unfold ads
  split
  · have := hg.1 i
    simp
    omega
  · rw [hg.2 i (by omega)]
def cmb (x : Nat) (N e M f : Nat → Nat) : Nat → Nat := ads 64 x (wd 64 (fun i => max (e i) (f i) - e i) 9 (cut 64 N)) (wd 64 (fun i => max (e i) (f i) - f i) 9 (cut 64 M))
def mxE (e f : Nat → Nat) : Nat → Nat := fun i => max (e i) (f i)
theorem mxE_ok {e f : Nat → Nat} (h1 : okE e) (h2 : okE f) : okE (mxE e f) := ⟨fun i => by have := h1.1 i; have := h2.1 i; show max (e i) (f i) < 100; omega, fun i hi => by show max (e i) (f i) = 0; rw [h1.2 i hi, h2.2 i hi]; rfl⟩
set_option maxHeartbeats 4000000 in
set_option maxRecDepth 100000 in
theorem c_combine {c t u m w k x z y : Nat} {N e M f : Nat → Nat} (hc : isC G c) (ht : isT G t 64) (hu : isT G u m) (hw : isT G w k) (htu : t ≠ u) (htw : t ≠ w) (htc : c + 5 ≠ t + 1) (huc : c + 5 ≠ u + 1) (hwc : c + 5 ≠ w + 1) (hN : okP m N) (hM : okP k M) (hE : okE e) (hF : okE f) (hx : x < 10007) (hs : tIs S u m N e z) (hs' : tIs S w k M f y) : CT (mkE l D cI cT) G y_Comb_combine b_Comb_combine 6 none 4 [.ref c, .ref t, .ref u, .ref w, .int (nI x)] S (Pv (fun S' => tIs S' t 64 (nrN 64 (cmb x N e M f) (mxE e f)) (nrE 64 (cmb x N e M f) (mxE e f)) (nrZ 64 (cmb x N e M f) (if tp N m = 0 then y else z)) ∧ Ex (fun a => (t ≤ a ∧ a < t + 4) ∨ (c + 5 ≤ a ∧ a < c + 7)) S S')) := by
  have hc0 := hc
  have ht0 := ht
  have hu0 := hu
  have hw0 := hw
  have hsw := ht.sepP hc.2.2 htc
  have hsu := hu.sepP hc.2.2 huc
  have hsv := hw.sepP hc.2.2 hwc
  have htu' := ht.sep hu htu
  have htw' := ht.sep hw htw
  obtain ⟨hC, hnx, hpw⟩ := hc
  obtain ⟨hT, hpp, he⟩ := ht
  have hpp0 := hpp
  obtain ⟨hq, ha, -, -⟩ := hpp
  obtain ⟨hU, hpu, hue⟩ := hu
  obtain ⟨hW, hpw2, hwe⟩ := hw
  refine mk_v (by decide) (eok l D cI cT) (by simp [Value.category]) (Nat.le_of_ble_eq_true rfl) (fun J X hR => ?_)
  show J S 0 [some (.ref c), some (.ref t), some (.ref u), some (.ref w), some (.int (nI x)), none] []
  have body : ∀ v, v = (if tp N m = 0 then y else z) → J S 19 [some (.ref c), some (.ref t), some (.ref u), some (.ref w), some (.int (nI x)), none] [.int (nI v), .ref t] := by
    intro v hv
    refine r_put X lp_Comb_31 d_Comb_combine_19 (by assumption) (by rfl) (Nat.le_of_ble_eq_true rfl) ?_
    refine r_iconst X (x := (nI 0)) d_Comb_combine_22 (by decide) ?_
    refine r_istore X d_Comb_combine_23 (by decide) ?_
    have ho1 : Out S (fdS S t (nI v)) t 1 := Out.fd (by omega) (by omega)
    have ez : (fdS S t (nI v)).2 t = nI v := fdS_2 _ _ _
    have hs1 := hs.out ho1 (by omega)
    have hs1' := hs'.out ho1 (by omega)
    revert ho1 ez hs1 hs1'
    generalize fdS S t (nI v) = S1
    intro ho1 ez hs1 hs1'
    have hok := mxE_ok hE hF
    have loop : ∀ j b S3, b + j = 9 → S3 = arS S1 (t + 3) (fun i => if i < b then mxE e f i else S1.1 (t + 3) i) → J S3 25 [some (.ref c), some (.ref t), some (.ref u), some (.ref w), some (.int (nI x)), some (.int (nI b))] [] := by
      intro j
      induction j with
      | zero =>
        intro b S3 hb hS
        refine r_iload X d_Comb_combine_25 (by rfl) ?_
        refine r_bipush X (x := (nI 8)) d_Comb_combine_27 (by decide) ?_
        refine r_icmp_gtN X d_Comb_combine_29 (tgt := 62) (by decide) (by omega) (by omega) (fun hc => ?_) (fun hc => ?_)
        · refine r_trunc X (f := mxE e f) he (fun i hi => ?_) ?_
          · rw [hS, arS_1, if_pos (by omega)]
          · rw [hS, arS_arS]
            have ho3 : Out S1 (arS S1 (t + 3) (mxE e f)) (t + 3) 1 := Out.ar (by omega) (by omega)
            have e3 : (arS S1 (t + 3) (mxE e f)).1 (t + 3) = mxE e f := arS_1 _ _ _
            have e4 : (arS S1 (t + 3) (mxE e f)).2 t = nI v := by rw [arS_2]; exact ez
            have hs3 := hs1.out ho3 (by omega)
            have hs3' := hs1'.out ho3 (by omega)
            revert ho3 e3 e4 hs3 hs3'
            generalize arS S1 (t + 3) (mxE e f) = S4
            intro ho3 e3 e4 hs3 hs3'
            refine r_aload_n X d_Comb_combine_62 (by rfl) ?_
            refine r_get X lf_Comb_45 d_Comb_combine_63 (by assumption) (by rfl) ?_
            refine r_cVv X lv_Comb_48 (c_clear hpp0) (by assumption) (by decide) rfl (Nat.le_of_ble_eq_true rfl) d_Comb_combine_66 rfl (fun S5 h5 => ?_)
            obtain ⟨h5, ho5⟩ := h5
            have ht5 : tIs S5 t 64 (fun _ => 0) (mxE e f) v := ⟨h5, by rw [ho5.a1 (by omega)]; exact e3, by rw [ho5.a2 (by omega)]; exact e4⟩
            have hs5 := hs3.out ho5 (by omega)
            have hs5' := hs3'.out ho5 (by omega)
            refine r_aload_n X d_Comb_combine_69 (by rfl) ?_
            refine r_aload_n X d_Comb_combine_70 (by rfl) ?_
            refine r_aload_n X d_Comb_combine_71 (by rfl) ?_
            refine r_iconst X (x := (nI 1)) d_Comb_combine_72 (by decide) ?_
            refine r_cVv X lv_Comb_51 (c_addWidened (x := 1) hc0 ht0 hu0 htu htc huc ⟨fun _ => (by decide : 0 < 10007), fun _ _ => rfl⟩ hN hok hE (fun i => Nat.le_max_left _ _) (by decide) ht5 hs5) (by assumption) (by decide) rfl (Nat.le_of_ble_eq_true rfl) d_Comb_combine_73 rfl (fun S6 h6 => ?_)
            obtain ⟨h6, hx6⟩ := h6
            have hs6' := hs5'.ex hx6 (fun a h1 h2 => by omega)
            refine r_aload_n X d_Comb_combine_76 (by rfl) ?_
            refine r_aload_n X d_Comb_combine_77 (by rfl) ?_
            refine r_aload_n X d_Comb_combine_78 (by rfl) ?_
            refine r_iload X d_Comb_combine_79 (by rfl) ?_
            rw [ads_0 (wd_ok (cut_ok 64 hN.1) 9)] at h6
            refine r_cVv X lv_Comb_51 (c_addWidened hc0 ht0 hw0 htw htc hwc (wd_ok (cut_ok 64 hN.1) 9) hM hok hF (fun i => Nat.le_max_right _ _) hx h6 hs6') (by assumption) (by decide) rfl (Nat.le_of_ble_eq_true rfl) d_Comb_combine_81 rfl (fun S7 h7 => ?_)
            obtain ⟨h7, hx7⟩ := h7
            refine r_aload_n X d_Comb_combine_84 (by rfl) ?_
            refine r_cVv X lv_Comb_55 (c_normalise ht0 (ads_ok 64 x _ _) hok h7) (by assumption) (by decide) rfl (Nat.le_of_ble_eq_true rfl) d_Comb_combine_85 rfl (fun S8 h8 => ?_)
            obtain ⟨h8, ho8⟩ := h8
            refine hR _ _ _ d_Comb_combine_88 ⟨rfl, ?_, ?_⟩
            · rw [← hv]
              exact h8
            · have p1 : Ex (fun a => (t ≤ a ∧ a < t + 4) ∨ (c + 5 ≤ a ∧ a < c + 7)) S S5 := ((ho1.ex (fun a h1 h2 => Or.inl ⟨h1, by omega⟩)).trans (ho3.ex (fun a h1 h2 => Or.inl ⟨by omega, by omega⟩))).trans (ho5.ex (fun a h1 h2 => Or.inl ⟨by omega, by omega⟩))
              exact ((p1.trans (hx6.mono (fun a h => by omega))).trans (hx7.mono (fun a h => by omega))).trans (ho8.ex (fun a h1 h2 => Or.inl ⟨h1, by omega⟩))
        · omega
      | succ j ih =>
        intro b S3 hb hS
        have e1 : S3.1 (u + 3) b = e b := by rw [hS, arS_1n (by omega), hs1.2.1]
        have e2 : S3.1 (w + 3) b = f b := by rw [hS, arS_1n (by omega), hs1'.2.1]
        have b1 := hE.1 b
        have b2 := hF.1 b
        refine r_iload X d_Comb_combine_25 (by rfl) ?_
        refine r_bipush X (x := (nI 8)) d_Comb_combine_27 (by decide) ?_
        refine r_icmp_gtN X d_Comb_combine_29 (tgt := 62) (by decide) (by omega) (by omega) (fun hc => ?_) (fun hc => ?_)
        · omega
        · refine r_aload_n X d_Comb_combine_32 (by rfl) ?_
          refine r_get X lf_Comb_35 d_Comb_combine_33 (by assumption) (by rfl) ?_
          refine r_iload X d_Comb_combine_36 (by rfl) ?_
          refine r_aload_n X d_Comb_combine_38 (by rfl) ?_
          refine r_get X lf_Comb_35 d_Comb_combine_39 (by assumption) (by rfl) ?_
          refine r_iload X d_Comb_combine_42 (by rfl) ?_
          refine r_iald X d_Comb_combine_44 (by assumption) (by omega) (by omega) ?_
          refine r_aload_n X d_Comb_combine_45 (by rfl) ?_
          refine r_get X lf_Comb_35 d_Comb_combine_46 (by assumption) (by rfl) ?_
          refine r_iload X d_Comb_combine_49 (by rfl) ?_
          refine r_iald X d_Comb_combine_51 (by assumption) (by omega) (by omega) ?_
          rw [e1, e2]
          refine r_mmaxN X lm_Comb_39 (by decide) (Nat.le_of_ble_eq_true rfl) (by omega) (by omega) d_Comb_combine_52 ?_
          refine r_iast X d_Comb_combine_55 (by assumption) (by omega) (by omega) ?_
          refine r_iincN X 1 d_Comb_combine_56 (by rfl) (by decide) (by decide) ?_
          refine r_goto X d_Comb_combine_59 (tgt := 25) (by decide) ?_
          refine ih (b + 1) _ (by omega) ?_
          rw [hS, arS_arS, arS_1]
          congr 1
          exact up_lt (mxE e f) _ b
    refine loop 9 0 _ (by omega) ?_
    rw [if_lt0 (mxE e f), arS_id]
  refine r_aload_n X d_Comb_combine_0 (by rfl) ?_
  refine r_aload_n X d_Comb_combine_1 (by rfl) ?_
  refine r_cVi X lv_Comb_27 (c_isZero hu0 hs) (by assumption) (by decide) rfl (Nat.le_of_ble_eq_true rfl) d_Comb_combine_2 rfl (fun S1 r h1 => ?_)
  obtain ⟨rfl, ⟨rfl, h1⟩ | ⟨rfl, h1⟩⟩ := h1
  · refine r_if_eqN X d_Comb_combine_5 (tgt := 15) (by decide) (by omega) (fun hc => ?_) (fun hc => ?_)
    · omega
    · refine r_aload_n X d_Comb_combine_8 (by rfl) ?_
      refine r_get X lf_Comb_31 d_Comb_combine_9 (by assumption) (by rfl) ?_
      rw [hs'.2.2]
      refine r_goto X d_Comb_combine_12 (tgt := 19) (by decide) ?_
      exact body y (by rw [if_pos h1])
  · refine r_if_eqN X d_Comb_combine_5 (tgt := 15) (by decide) (by omega) (fun hc => ?_) (fun hc => ?_)
    · refine r_aload_n X d_Comb_combine_15 (by rfl) ?_
      refine r_get X lf_Comb_31 d_Comb_combine_16 (by assumption) (by rfl) ?_
      rw [hs.2.2]
      exact body z (by rw [if_neg (by omega)])
    · omega
def nxt (n z : Nat) (N : Nat → Nat) : Nat → Nat := scl z (tyl n n (cut n N))
theorem nxt_ok (n z : Nat) {N : Nat → Nat} (h : ∀ i, N i < 10007) : okP n (nxt n z N) := scl_ok (tyl_ok (cut_ok n h) n)
set_option maxHeartbeats 4000000 in
set_option maxRecDepth 100000 in
theorem c_sub {c t u m z : Nat} {N e : Nat → Nat} (hc : isC G c) (ht : isT G t 64) (hu : isT G u m) (htu : t ≠ u) (htc : c + 5 ≠ t + 1) (huc : c + 5 ≠ u + 1) (htn : t ≠ c + 1) (hun : u ≠ c + 1) (hN : okP m N) (hE : okE e) (hz : z < 10007) (hs : tIs S u m N e z) : CT (mkE l D cI cT) G y_Comb_subtractFromNext b_Comb_subtractFromNext 3 none 5 [.ref c, .ref t, .ref u] S (Pv (fun S' => tIs S' t 64 (nrN 64 (cmb 10006 (nxt 64 z N) (sh1 e) N e) (mxE (sh1 e) e)) (nrE 64 (cmb 10006 (nxt 64 z N) (sh1 e) N e) (mxE (sh1 e) e)) (nrZ 64 (cmb 10006 (nxt 64 z N) (sh1 e) N e) z) ∧ Ex (fun a => (t ≤ a ∧ a < t + 4) ∨ (c ≤ a ∧ a < c + 7)) S S')) := by
  have hc0 := hc
  have hsep := hu.sep hc.2.1 hun
  obtain ⟨hC, hnx, hpw⟩ := hc
  have hnx0 := hnx
  obtain ⟨hNT, hNP, hNE⟩ := hnx
  refine mk_v (by decide) (eok l D cI cT) (by simp [Value.category]) (Nat.le_of_ble_eq_true rfl) (fun J X hR => ?_)
  show J S 0 [some (.ref c), some (.ref t), some (.ref u)] []
  refine r_aload_n X d_Comb_subtractFromNext_0 (by rfl) ?_
  refine r_get X lf_Comb_14 d_Comb_subtractFromNext_1 (by assumption) (by rfl) ?_
  refine r_aload_n X d_Comb_subtractFromNext_4 (by rfl) ?_
  refine r_cVv X lv_Comb_58 (c_next hnx0 hu (fun z => hun z.symm) hN hE hz hs) (by assumption) (by decide) rfl (Nat.le_of_ble_eq_true rfl) d_Comb_subtractFromNext_5 rfl (fun S1 h1 => ?_)
  obtain ⟨h1, ho1⟩ := h1
  have hs1 := hs.out ho1 (by omega)
  refine r_aload_n X d_Comb_subtractFromNext_8 (by rfl) ?_
  refine r_aload_n X d_Comb_subtractFromNext_9 (by rfl) ?_
  refine r_aload_n X d_Comb_subtractFromNext_10 (by rfl) ?_
  refine r_get X lf_Comb_14 d_Comb_subtractFromNext_11 (by assumption) (by rfl) ?_
  refine r_aload_n X d_Comb_subtractFromNext_14 (by rfl) ?_
  refine r_sipush X (x := (nI 10006)) d_Comb_subtractFromNext_15 (by decide) ?_
  refine r_cVv X lv_Comb_62 (c_combine (x := 10006) hc0 ht hnx0 hu htn htu htc (by omega) huc (nxt_ok 64 z hN.1) hN (sh1_ok hE) hE (by decide) h1 hs1) (by assumption) (by decide) rfl (Nat.le_of_ble_eq_true rfl) d_Comb_subtractFromNext_18 rfl (fun S2 h2 => ?_)
  obtain ⟨h2, hx2⟩ := h2
  refine hR _ _ _ d_Comb_subtractFromNext_21 ⟨rfl, ?_, ?_⟩
  · rw [show (if tp (nxt 64 z N) 64 = 0 then z else z) = z by split <;> rfl] at h2
    exact h2
  · exact (ho1.ex (fun a h1 h2 => Or.inr ⟨by omega, by omega⟩)).trans (hx2.mono (fun a h => by omega))
end C1
