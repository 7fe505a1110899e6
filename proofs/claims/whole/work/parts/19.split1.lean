section S1
variable {l : Launch} {D : va_G} {cI cT : ClassId} {G : Gm} {S : Sg}
def isS (G : Gm) (s : Nat) : Prop := G s = some (kObj iSplit (fun _ => [.ref (s + 1), .ref (s + 2), .ref (s + 3), .ref (s + 5), .ref (s + 7)])) ∧ G (s + 1) = some (kArr 3) ∧ G (s + 2) = some (kArr 24) ∧ isP G (s + 3) 64 ∧ isP G (s + 5) 64 ∧ isP G (s + 7) 64
theorem isT.sepS {t n s : Nat} (h1 : isT G t n) (h2 : isS G s) : t + 4 ≤ s ∨ s + 9 ≤ t := by
  have a0 := kObj_ne h1.1 h2.1 (by decide)
  have a1 := kArr_ne h1.1 h2.2.1
  have a2 := kArr_ne h1.1 h2.2.2.1
  have a3 := kObj_ne h1.1 h2.2.2.2.1.1 (by decide)
  have a4 := kArr_ne h1.1 h2.2.2.2.1.2.1
  have a5 := kObj_ne h1.1 h2.2.2.2.2.1.1 (by decide)
  have a6 := kArr_ne h1.1 h2.2.2.2.2.1.2.1
  have a7 := kObj_ne h1.1 h2.2.2.2.2.2.1 (by decide)
  have a8 := kArr_ne h1.1 h2.2.2.2.2.2.2.1
  have b1 := kObj_ne h2.1 h1.2.1.1 (by decide)
  have b2 := kArr_ne h2.1 h1.2.1.2.1
  have b3 := kArr_ne h2.1 h1.2.2
  omega
def dsr (d : Nat) (s : Nat → Nat) : Nat → Nat
  | 0 => s 0 * iv d % 10007
  | i + 1 => (s (i + 1) + (10007 - dsr d s i)) % 10007 * iv d % 10007
theorem dsr_lt (d : Nat) (s : Nat → Nat) (i : Nat) : dsr d s i < 10007 := by
  cases i with
  | zero => exact Nat.mod_lt _ (by decide)
  | succ i => exact Nat.mod_lt _ (by decide)
def dse (d : Nat) (s : Nat → Nat) : Nat → Nat := cut 3 (dsr d s)
def dseN (d : Nat) : Nat → (Nat → Nat) → Nat → Nat
  | 0, s => s
  | t + 1, s => dseN d t (dse d s)
theorem dse_ok (d : Nat) (s : Nat → Nat) : okP 3 (dse d s) := cut_ok 3 (dsr_lt d s)
theorem dseN_ok {d : Nat} : ∀ (t : Nat) {s : Nat → Nat}, okP 3 s → okP 3 (dseN d t s)
  | 0, _, h => h
  | t + 1, s, _ => dseN_ok t (dse_ok d s)
set_option maxHeartbeats 4000000 in
set_option maxRecDepth 100000 in
theorem c_divideSeries {s d : Nat} {f : Nat → Nat} (hs : isS G s) (hf : okP 3 f) (he : S.1 (s + 1) = f) (hd : d < 10007) : CT (mkE l D cI cT) G y_Split_divideSeries b_Split_divideSeries 5 none 2 [.ref s, .int (nI d)] S (Pv (fun S' => S'.1 (s + 1) = dse d f ∧ Out S S' (s + 1) 1)) := by
  obtain ⟨hS, ha1, ha2, -⟩ := hs
  refine mk_v (by decide) (eok l D cI cT) (by simp [Value.category]) (Nat.le_of_ble_eq_true rfl) (fun J X hR => ?_)
  show J S 0 [some (.ref s), some (.int (nI d)), none, none, none] []
  have hiv := iv_lt d
  have loop : ∀ m i y S1, i + m = 3 → (y = if i = 0 then 0 else dsr d f (i - 1)) → S1 = arS S (s + 1) (fun j => if j < i then dsr d f j else f j) → J S1 10 [some (.ref s), some (.int (nI d)), some (.int (nI (iv d))), some (.int (nI y)), some (.int (nI i))] [] := by
    intro m
    induction m with
    | zero =>
      intro i y S1 hi hy hS1
      refine r_iload X d_Split_divideSeries_10 (by rfl) ?_
      refine r_iconst X (x := (nI 3)) d_Split_divideSeries_12 (by decide) ?_
      refine r_icmp_geN X d_Split_divideSeries_13 (tgt := 55) (by decide) (by omega) (by omega) (fun hc => ?_) (fun hc => ?_)
      · refine r_trunc X (f := dse d f) ha1 (fun j hj => ?_) ?_
        · rw [hS1, arS_1, if_pos (by omega)]
          unfold dse cut
          rw [if_pos hj]
        · refine hR _ _ _ d_Split_divideSeries_55 ⟨rfl, arS_1 _ _ _, ?_⟩
          rw [hS1, arS_arS]
          exact Out.ar (by omega) (by omega)
      · omega
    | succ m ih =>
      intro i y S1 hi hy hS1
      have e1 : S1.1 (s + 1) i = f i := by rw [hS1, arS_1, if_neg (by omega)]
      have b1 := hf.1 i
      have hy7 : y < 10007 := by rw [hy]; split; decide; exact dsr_lt _ _ _
      have he7 := em_lt (nI (f i) - nI y)
      have hm := mul_bd he7 hiv
      refine r_iload X d_Split_divideSeries_10 (by rfl) ?_
      refine r_iconst X (x := (nI 3)) d_Split_divideSeries_12 (by decide) ?_
      refine r_icmp_geN X d_Split_divideSeries_13 (tgt := 55) (by decide) (by omega) (by omega) (fun hc => ?_) (fun hc => ?_)
      · omega
      · refine r_aload_n X d_Split_divideSeries_16 (by rfl) ?_
        refine r_get X lf_Split_9 d_Split_divideSeries_17 (by assumption) (by rfl) ?_
        refine r_iload X d_Split_divideSeries_20 (by rfl) ?_
        refine r_aload_n X d_Split_divideSeries_22 (by rfl) ?_
        refine r_get X lf_Split_9 d_Split_divideSeries_23 (by assumption) (by rfl) ?_
        refine r_iload X d_Split_divideSeries_26 (by rfl) ?_
        refine r_iald X d_Split_divideSeries_28 (by assumption) (by omega) (by omega) ?_
        rw [e1]
        refine r_iload_n X d_Split_divideSeries_29 (by rfl) ?_
        refine r_isub X d_Split_divideSeries_30 ?_
        refine r_cSi X ls_Split_73 c_of (by decide) rfl (Nat.le_of_ble_eq_true rfl) d_Split_divideSeries_31 rfl (fun S2 r h2 => ?_)
        obtain ⟨rfl, rfl⟩ := h2
        refine r_iload_n X d_Split_divideSeries_34 (by rfl) ?_
        first | refine r_imulN X d_Split_divideSeries_35 ?_ | refine r_imul X d_Split_divideSeries_35 ?_
        refine r_sipush X (x := (nI 10007)) d_Split_divideSeries_36 (by decide) ?_
        refine r_iremN X d_Split_divideSeries_39 (by decide) (by decide) (by omega) ?_
        refine r_iast X d_Split_divideSeries_40 (by assumption) (by omega) (by omega) ?_
        have e4 : em (nI (f i) - nI y) * iv d % 10007 = dsr d f i := by
          rw [em_sub b1 hy7]
          cases i with
          | zero =>
            rw [hy, if_pos rfl]
            show (f 0 + (10007 - 0)) % 10007 * iv d % 10007 = f 0 * iv d % 10007
            rw [show (f 0 + (10007 - 0)) % 10007 = f 0 by omega]
          | succ i =>
            rw [hy, if_neg (by omega)]
            rfl
        rw [e4]
        have e5 : arS S2 (s + 1) (va_up (S2.1 (s + 1)) i (dsr d f i)) = arS S (s + 1) (fun j => if j < i + 1 then dsr d f j else f j) := by
          rw [hS1, arS_arS, arS_1, up_lt]
        rw [e5]
        have e6 : (arS S (s + 1) (fun j => if j < i + 1 then dsr d f j else f j)).1 (s + 1) i = dsr d f i := by rw [arS_1, if_pos (by omega)]
        revert e6
        generalize hS3 : arS S (s + 1) (fun j => if j < i + 1 then dsr d f j else f j) = S3
        intro e6
        refine r_aload_n X d_Split_divideSeries_41 (by rfl) ?_
        refine r_get X lf_Split_9 d_Split_divideSeries_42 (by assumption) (by rfl) ?_
        refine r_iload X d_Split_divideSeries_45 (by rfl) ?_
        refine r_iald X d_Split_divideSeries_47 (by assumption) (by omega) (by omega) ?_
        rw [e6]
        refine r_istore_n X d_Split_divideSeries_48 (by decide) ?_
        refine r_iincN X 1 d_Split_divideSeries_49 (by rfl) (by decide) (by decide) ?_
        refine r_goto X d_Split_divideSeries_52 (tgt := 10) (by decide) ?_
        exact ih (i + 1) _ _ (by omega) (by rw [if_neg (by omega), show i + 1 - 1 = i by omega]) hS3.symm
  refine r_iload_n X d_Split_divideSeries_0 (by rfl) ?_
  refine r_cSi X ls_Split_81 (c_invert hd) (by decide) rfl (Nat.le_of_ble_eq_true rfl) d_Split_divideSeries_1 rfl (fun S2 r h2 => ?_)
  obtain ⟨rfl, rfl⟩ := h2
  refine r_istore_n X d_Split_divideSeries_4 (by decide) ?_
  refine r_iconst X (x := (nI 0)) d_Split_divideSeries_5 (by decide) ?_
  refine r_istore_n X d_Split_divideSeries_6 (by decide) ?_
  refine r_iconst X (x := (nI 0)) d_Split_divideSeries_7 (by decide) ?_
  refine r_istore X d_Split_divideSeries_8 (by decide) ?_
  refine loop 3 0 0 _ (by omega) rfl ?_
  rw [if_lt0 (dsr d f), ← he, arS_id]
def rdq (r : Nat) : Nat → (Nat → Nat) → Nat → Nat
  | 0, f => f
  | k + 1, f => dq 64 r (rdq r k f)
theorem rdq_ok {r : Nat} {f : Nat → Nat} (h : okP 64 f) : ∀ k, okP 64 (rdq r k f)
  | 0 => h
  | k + 1 => dq_ok 64 r _
def ser0 (r : Nat) (f : Nat → Nat) : Nat → Nat := fun i => if i < 3 then hn (rdq r i f) r 64 0 else 0
theorem ser0_ok (r : Nat) (f : Nat → Nat) : okP 3 (ser0 r f) := by
  refine ⟨fun i => ?_, fun i hi => ?_⟩
  · unfold ser0
    split
    · exact hn_lt _ _ _ _
    · decide
  · unfold ser0
    rw [if_neg (by omega)]
def dst (o b : Nat) : Nat := (o + (10007 - b)) % 10007
def xsr (e : Nat → Nat) (b : Nat) : Nat → (Nat → Nat) → Nat → Nat
  | 0, s => s
  | k + 1, s => if k = b then xsr e b k s else dseN (dst k b) (e k) (xsr e b k s)
theorem xsr_ok {e : Nat → Nat} {b : Nat} {s : Nat → Nat} (h : okP 3 s) : ∀ k, okP 3 (xsr e b k s) := by
  intro k
  induction k with
  | zero => exact h
  | succ k ih =>
    unfold xsr
    split
    · exact ih
    · exact dseN_ok _ ih
def xpn (e : Nat → Nat) (b : Nat) (N : Nat → Nat) : Nat → Nat := xsr e b 8 (ser0 (rt b) (cut 64 N))
theorem xpn_ok (e : Nat → Nat) (b : Nat) (N : Nat → Nat) : okP 3 (xpn e b N) := xsr_ok (ser0_ok _ _) 8
theorem dseN_s (d : Nat) : ∀ (t : Nat) (s : Nat → Nat), dseN d (t + 1) s = dse d (dseN d t s)
  | 0, _ => rfl
  | t + 1, s => dseN_s d t (dse d s)
set_option maxHeartbeats 4000000 in
set_option maxRecDepth 100000 in
theorem c_expandAt {s u m b z : Nat} {N e : Nat → Nat} (hs : isS G s) (hu : isT G u m) (hN : okP m N) (hE : okE e) (hb : b < 8) (hu1 : tIs S u m N e z) : CT (mkE l D cI cT) G y_Split_expandAt b_Split_expandAt 5 none 3 [.ref s, .ref u, .int (nI b)] S (Pv (fun S' => S'.1 (s + 1) = xpn e b N ∧ Ex (fun a => a = s + 1 ∨ a = s + 3 ∨ a = s + 4) S S')) := by
  have hs0 := hs
  have hsep := hu.sepS hs
  obtain ⟨hS, ha1, ha2, hpr, hpst, hpwh⟩ := hs
  have hpr0 := hpr
  obtain ⟨hqr, har, -, -⟩ := hpr
  obtain ⟨hU, hpu, hue⟩ := hu
  have hpu0 := hpu
  obtain ⟨hqu, hau, hm2, hm64⟩ := hpu
  refine mk_v (by decide) (eok l D cI cT) (by simp [Value.category]) (Nat.le_of_ble_eq_true rfl) (fun J X hR => ?_)
  show J S 0 [some (.ref s), some (.ref u), some (.int (nI b)), none, none] []
  refine r_aload_n X d_Split_expandAt_0 (by rfl) ?_
  refine r_get X lf_Split_23 d_Split_expandAt_1 (by assumption) (by rfl) ?_
  refine r_aload_n X d_Split_expandAt_4 (by rfl) ?_
  refine r_get X lf_Split_59 d_Split_expandAt_5 (by assumption) (by rfl) ?_
  refine r_cVv X lv_Split_62 (c_copyFrom hpr0 hpu0 (by omega) hN hu1.1.1) (by assumption) (by decide) rfl (Nat.le_of_ble_eq_true rfl) d_Split_expandAt_8 rfl (fun S1 h1 => ?_)
  obtain ⟨h1, ho1⟩ := h1
  have hcut := cut_ok 64 hN.1
  have second : ∀ j o v S2, o + j = 8 → S2.1 (s + 1) = xsr e b o (ser0 (rt b) (cut 64 N)) → Ex (fun a => a = s + 1 ∨ a = s + 3 ∨ a = s + 4) S S2 → J S2 40 [some (.ref s), some (.ref u), some (.int (nI b)), some (.int (nI o)), v] [] := by
    intro j
    induction j with
    | zero =>
      intro o v S2 ho hser hx
      have ho8 : o = 8 := by omega
      subst ho8
      refine r_iload_n X d_Split_expandAt_40 (by rfl) ?_
      refine r_bipush X (x := (nI 8)) d_Split_expandAt_41 (by decide) ?_
      refine r_icmp_geN X d_Split_expandAt_43 (tgt := 87) (by decide) (by omega) (by omega) (fun hc => ?_) (fun hc => ?_)
      · exact hR _ _ _ d_Split_expandAt_87 ⟨rfl, hser, hx⟩
      · omega
    | succ j ih =>
      intro o v S2 ho hser hx
      have hs2 := hu1.ex hx (fun a h1 h2 => by omega)
      have h100 := hE.1 o
      refine r_iload_n X d_Split_expandAt_40 (by rfl) ?_
      refine r_bipush X (x := (nI 8)) d_Split_expandAt_41 (by decide) ?_
      refine r_icmp_geN X d_Split_expandAt_43 (tgt := 87) (by decide) (by omega) (by omega) (fun hc => ?_) (fun hc => ?_)
      · omega
      · refine r_iconst X (x := (nI 0)) d_Split_expandAt_46 (by decide) ?_
        refine r_istore X d_Split_expandAt_47 (by decide) ?_
        have inner : ∀ d k S3, k + d = e o → o ≠ b → S3.1 (s + 1) = dseN (dst o b) k (xsr e b o (ser0 (rt b) (cut 64 N))) → Ex (fun a => a = s + 1 ∨ a = s + 3 ∨ a = s + 4) S S3 → J S3 49 [some (.ref s), some (.ref u), some (.int (nI b)), some (.int (nI o)), some (.int (nI k))] [] := by
          intro d
          induction d with
          | zero =>
            intro k S3 hk hob hser3 hx3
            have hs3 := hu1.ex hx3 (fun a h1 h2 => by omega)
            refine r_iload_n X d_Split_expandAt_49 (by rfl) ?_
            refine r_iload_n X d_Split_expandAt_50 (by rfl) ?_
            refine r_icmp_eqN X d_Split_expandAt_51 (tgt := 81) (by decide) (by omega) (by omega) (fun hc => ?_) (fun hc => ?_)
            · exact absurd hc hob
            · refine r_iload X d_Split_expandAt_54 (by rfl) ?_
              refine r_aload_n X d_Split_expandAt_56 (by rfl) ?_
              refine r_get X lf_Split_70 d_Split_expandAt_57 (by assumption) (by rfl) ?_
              refine r_iload_n X d_Split_expandAt_60 (by rfl) ?_
              refine r_iald X d_Split_expandAt_61 (by assumption) (by omega) (by omega) ?_
              rw [hs3.2.1]
              refine r_icmp_geN X d_Split_expandAt_62 (tgt := 81) (by decide) (by omega) (by omega) (fun hc => ?_) (fun hc => ?_)
              · refine r_iincN X 1 d_Split_expandAt_81 (by rfl) (by decide) (by decide) ?_
                refine r_goto X d_Split_expandAt_84 (tgt := 40) (by decide) ?_
                refine ih (o + 1) _ S3 (by omega) ?_ hx3
                rw [hser3]
                show _ = if o = b then _ else dseN (dst o b) (e o) _
                rw [if_neg hob, show k = e o by omega]
              · omega
          | succ d ihd =>
            intro k S3 hk hob hser3 hx3
            have hs3 := hu1.ex hx3 (fun a h1 h2 => by omega)
            refine r_iload_n X d_Split_expandAt_49 (by rfl) ?_
            refine r_iload_n X d_Split_expandAt_50 (by rfl) ?_
            refine r_icmp_eqN X d_Split_expandAt_51 (tgt := 81) (by decide) (by omega) (by omega) (fun hc => ?_) (fun hc => ?_)
            · exact absurd hc hob
            · refine r_iload X d_Split_expandAt_54 (by rfl) ?_
              refine r_aload_n X d_Split_expandAt_56 (by rfl) ?_
              refine r_get X lf_Split_70 d_Split_expandAt_57 (by assumption) (by rfl) ?_
              refine r_iload_n X d_Split_expandAt_60 (by rfl) ?_
              refine r_iald X d_Split_expandAt_61 (by assumption) (by omega) (by omega) ?_
              rw [hs3.2.1]
              refine r_icmp_geN X d_Split_expandAt_62 (tgt := 81) (by decide) (by omega) (by omega) (fun hc => ?_) (fun hc => ?_)
              · omega
              · refine r_aload_n X d_Split_expandAt_65 (by rfl) ?_
                refine r_iload_n X d_Split_expandAt_66 (by rfl) ?_
                refine r_iload_n X d_Split_expandAt_67 (by rfl) ?_
                refine r_isub X d_Split_expandAt_68 ?_
                refine r_cSi X ls_Split_73 c_of (by decide) rfl (Nat.le_of_ble_eq_true rfl) d_Split_expandAt_69 rfl (fun S4 r h4 => ?_)
                obtain ⟨rfl, rfl⟩ := h4
                rw [em_sub (by omega) (by omega)]
                refine r_cVv X lv_Split_78 (c_divideSeries (d := dst o b) hs0 (dseN_ok k (xsr_ok (ser0_ok _ _) o)) hser3 (Nat.mod_lt _ (by decide))) (by assumption) (by decide) rfl (Nat.le_of_ble_eq_true rfl) d_Split_expandAt_72 rfl (fun S5 h5 => ?_)
                obtain ⟨h5, ho5⟩ := h5
                refine r_iincN X 1 d_Split_expandAt_75 (by rfl) (by decide) (by decide) ?_
                refine r_goto X d_Split_expandAt_78 (tgt := 49) (by decide) ?_
                refine ihd (k + 1) S5 (by omega) hob ?_ (hx3.trans (ho5.ex (fun a h1 h2 => by omega)))
                rw [dseN_s]
                exact h5
        by_cases hob : o = b
        · refine r_iload_n X d_Split_expandAt_49 (by rfl) ?_
          refine r_iload_n X d_Split_expandAt_50 (by rfl) ?_
          refine r_icmp_eqN X d_Split_expandAt_51 (tgt := 81) (by decide) (by omega) (by omega) (fun hc => ?_) (fun hc => ?_)
          · refine r_iincN X 1 d_Split_expandAt_81 (by rfl) (by decide) (by decide) ?_
            refine r_goto X d_Split_expandAt_84 (tgt := 40) (by decide) ?_
            refine ih (o + 1) _ S2 (by omega) ?_ hx
            show _ = if o = b then _ else dseN (dst o b) (e o) _
            rw [if_pos hob]
            exact hser
          · exact absurd hob hc
        · exact inner (e o) 0 S2 (by omega) hob hser hx
  have first : ∀ j i S2, i + j = 3 → pIs S2 (s + 3) 64 (rdq (rt b) i (cut 64 N)) → (∀ k, k < i → S2.1 (s + 1) k = ser0 (rt b) (cut 64 N) k) → Ex (fun a => a = s + 1 ∨ a = s + 3 ∨ a = s + 4) S S2 → J S2 13 [some (.ref s), some (.ref u), some (.int (nI b)), some (.int (nI i)), none] [] := by
    intro j
    induction j with
    | zero =>
      intro i S2 hi hp hk hx
      refine r_iload_n X d_Split_expandAt_13 (by rfl) ?_
      refine r_iconst X (x := (nI 3)) d_Split_expandAt_14 (by decide) ?_
      refine r_icmp_geN X d_Split_expandAt_15 (tgt := 38) (by decide) (by omega) (by omega) (fun hc => ?_) (fun hc => ?_)
      · refine r_trunc X (f := ser0 (rt b) (cut 64 N)) ha1 (fun k hk3 => (hk k (by omega)).symm) ?_
        refine r_iconst X (x := (nI 0)) d_Split_expandAt_38 (by decide) ?_
        refine r_istore_n X d_Split_expandAt_39 (by decide) ?_
        refine second 8 0 _ _ (by omega) (arS_1 _ _ _) (hx.trans ((Out.ar (q := s + 1) (w := 1) (by omega) (by omega)).ex (fun a h1 h2 => by omega)))
      · omega
    | succ j ih =>
      intro i S2 hi hp hk hx
      refine r_iload_n X d_Split_expandAt_13 (by rfl) ?_
      refine r_iconst X (x := (nI 3)) d_Split_expandAt_14 (by decide) ?_
      refine r_icmp_geN X d_Split_expandAt_15 (tgt := 38) (by decide) (by omega) (by omega) (fun hc => ?_) (fun hc => ?_)
      · omega
      · refine r_aload_n X d_Split_expandAt_18 (by rfl) ?_
        refine r_get X lf_Split_9 d_Split_expandAt_19 (by assumption) (by rfl) ?_
        refine r_iload_n X d_Split_expandAt_22 (by rfl) ?_
        refine r_aload_n X d_Split_expandAt_23 (by rfl) ?_
        refine r_get X lf_Split_23 d_Split_expandAt_24 (by assumption) (by rfl) ?_
        refine r_iload_n X d_Split_expandAt_27 (by rfl) ?_
        refine r_cVi X lv_Split_66 (c_divideBy (b := b) hpr0 (rdq_ok hcut i) hp (by omega)) (by assumption) (by decide) rfl (Nat.le_of_ble_eq_true rfl) d_Split_expandAt_28 rfl (fun S3 r h3 => ?_)
        obtain ⟨⟨h3, ho3⟩, rfl⟩ := h3
        refine r_iast X d_Split_expandAt_31 (by assumption) (by omega) (by omega) ?_
        refine r_iincN X 1 d_Split_expandAt_32 (by rfl) (by decide) (by decide) ?_
        refine r_goto X d_Split_expandAt_35 (tgt := 13) (by decide) ?_
        refine ih (i + 1) _ (by omega) ?_ ?_ ?_
        · exact h3.out (Out.ar (a := s + 1) (q := s + 1) (w := 1) (by omega) (by omega)) (by omega)
        · intro k hk2
          rw [arS_1]
          unfold va_up
          by_cases h : k = i
          · rw [if_pos h, h]
            unfold ser0
            rw [if_pos (by omega)]
            rfl
          · rw [if_neg h, ho3.a1 (by omega)]
            exact hk k (by omega)
        · exact (hx.trans (ho3.ex (fun a h1 h2 => by omega))).trans ((Out.ar (q := s + 1) (w := 1) (by omega) (by omega)).ex (fun a h1 h2 => by omega))
  refine r_iconst X (x := (nI 0)) d_Split_expandAt_11 (by decide) ?_
  refine r_istore_n X d_Split_expandAt_12 (by decide) ?_
  exact first 3 0 S1 (by omega) h1 (fun k hk => by omega) (ho1.ex (fun a h1 h2 => by omega))
def wgt (e : Nat → Nat) (b k : Nat) (s : Nat → Nat) : Nat := if k ≤ e b ∧ e b - k < 3 then s (e b - k) else 0
set_option maxHeartbeats 4000000 in
set_option maxRecDepth 100000 in
theorem c_expandedWeight {s u m b k z : Nat} {N e f : Nat → Nat} (hs : isS G s) (hu : isT G u m) (hE : okE e) (hb : b < 8) (hk : k < 100) (hu1 : tIs S u m N e z) (hf : S.1 (s + 1) = f) : CT (mkE l D cI cT) G y_Split_expandedWeight b_Split_expandedWeight 5 (some .int) 0 [.ref s, .ref u, .int (nI b), .int (nI k)] S (Pi (fun S' r => S' = S ∧ r = nI (wgt e b k f))) := by
  obtain ⟨hS, ha1, ha2, -⟩ := hs
  obtain ⟨hU, hpu, hue⟩ := hu
  refine mk_i (by decide) (eok l D cI cT) (by simp [Value.category]) (Nat.le_of_ble_eq_true rfl) (fun J X hR => ?_)
  show J S 0 [some (.ref s), some (.ref u), some (.int (nI b)), some (.int (nI k)), none] []
  have h100 := hE.1 b
  refine r_aload_n X d_Split_expandedWeight_0 (by rfl) ?_
  refine r_get X lf_Split_70 d_Split_expandedWeight_1 (by assumption) (by rfl) ?_
  refine r_iload_n X d_Split_expandedWeight_4 (by rfl) ?_
  refine r_iald X d_Split_expandedWeight_5 (by assumption) (by omega) (by omega) ?_
  rw [hu1.2.1]
  refine r_iload_n X d_Split_expandedWeight_6 (by rfl) ?_
  refine r_isub X d_Split_expandedWeight_7 ?_
  by_cases hle : k ≤ e b
  · refine r_int (pk_sub hle) ?_
    refine r_istore X d_Split_expandedWeight_8 (by decide) ?_
    refine r_iload X d_Split_expandedWeight_10 (by rfl) ?_
    refine r_if_lt X d_Split_expandedWeight_12 (tgt := 31) (by decide) (fun hc => absurd hc (nI_pos (by omega))) (fun hc => ?_)
    refine r_iload X d_Split_expandedWeight_15 (by rfl) ?_
    refine r_iconst X (x := (nI 3)) d_Split_expandedWeight_17 (by decide) ?_
    refine r_icmp_geN X d_Split_expandedWeight_18 (tgt := 31) (by decide) (by omega) (by omega) (fun hc => ?_) (fun hc => ?_)
    · refine r_iconst X (x := (nI 0)) d_Split_expandedWeight_31 (by decide) ?_
      refine hR _ _ _ _ d_Split_expandedWeight_32 rfl ⟨_, rfl, rfl, ?_⟩
      unfold wgt
      rw [if_neg (by omega)]
    · refine r_aload_n X d_Split_expandedWeight_21 (by rfl) ?_
      refine r_get X lf_Split_9 d_Split_expandedWeight_22 (by assumption) (by rfl) ?_
      refine r_iload X d_Split_expandedWeight_25 (by rfl) ?_
      refine r_iald X d_Split_expandedWeight_27 (by assumption) (by omega) (by omega) ?_
      refine r_goto X d_Split_expandedWeight_28 (tgt := 32) (by decide) ?_
      refine hR _ _ _ _ d_Split_expandedWeight_32 rfl ⟨_, rfl, rfl, ?_⟩
      unfold wgt
      rw [if_pos (by omega), hf]
  · refine r_istore X d_Split_expandedWeight_8 (by decide) ?_
    refine r_iload X d_Split_expandedWeight_10 (by rfl) ?_
    refine r_if_lt X d_Split_expandedWeight_12 (tgt := 31) (by decide) (fun hc => ?_) (fun hc => absurd (pk_sneg (by omega) (by omega)) hc)
    refine r_iconst X (x := (nI 0)) d_Split_expandedWeight_31 (by decide) ?_
    refine hR _ _ _ _ d_Split_expandedWeight_32 rfl ⟨_, rfl, rfl, ?_⟩
    unfold wgt
    rw [if_neg (by omega)]
set_option maxHeartbeats 4000000 in
set_option maxRecDepth 100000 in
theorem c_weightOf {s u m b k z : Nat} {N e : Nat → Nat} (hs : isS G s) (hu : isT G u m) (hN : okP m N) (hE : okE e) (hb : b < 8) (hk : k < 100) (hu1 : tIs S u m N e z) : CT (mkE l D cI cT) G y_Split_weightOf b_Split_weightOf 4 (some .int) 4 [.ref s, .ref u, .int (nI b), .int (nI k)] S (Pi (fun S' r => Ex (fun a => a = s + 1 ∨ a = s + 3 ∨ a = s + 4) S S' ∧ r = nI (wgt e b k (xpn e b N)))) := by
  have hs0 := hs
  have hsep := hu.sepS hs
  obtain ⟨hS, ha1, ha2, -⟩ := hs
  refine mk_i (by decide) (eok l D cI cT) (by simp [Value.category]) (Nat.le_of_ble_eq_true rfl) (fun J X hR => ?_)
  show J S 0 [some (.ref s), some (.ref u), some (.int (nI b)), some (.int (nI k))] []
  refine r_aload_n X d_Split_weightOf_0 (by rfl) ?_
  refine r_aload_n X d_Split_weightOf_1 (by rfl) ?_
  refine r_iload_n X d_Split_weightOf_2 (by rfl) ?_
  refine r_cVv X lv_Split_33 (c_expandAt hs0 hu hN hE hb hu1) (by assumption) (by decide) rfl (Nat.le_of_ble_eq_true rfl) d_Split_weightOf_3 rfl (fun S1 h1 => ?_)
  obtain ⟨h1, hx⟩ := h1
  refine r_aload_n X d_Split_weightOf_6 (by rfl) ?_
  refine r_aload_n X d_Split_weightOf_7 (by rfl) ?_
  refine r_iload_n X d_Split_weightOf_8 (by rfl) ?_
  refine r_iload_n X d_Split_weightOf_9 (by rfl) ?_
  refine r_cVi X lv_Split_37 (c_expandedWeight hs0 hu hE hb hk (hu1.ex hx (fun a h1 h2 => by omega)) h1) (by assumption) (by decide) rfl (Nat.le_of_ble_eq_true rfl) d_Split_weightOf_10 rfl (fun S2 r h2 => ?_)
  obtain ⟨rfl, rfl⟩ := h2
  exact hR _ _ _ _ d_Split_weightOf_13 rfl ⟨_, rfl, hx, rfl⟩
set_option maxHeartbeats 4000000 in
set_option maxRecDepth 100000 in
theorem c_partIndex {b k : Nat} (hk : 1 ≤ k) : CT (mkE l D cI cT) G y_Split_partIndex b_Split_partIndex 2 (some .int) 0 [.int (nI b), .int (nI k)] S (Pi (fun S' r => S' = S ∧ r = nI (b * 3 + k - 1))) := by
  refine mk_i (by decide) (eok l D cI cT) (by simp [Value.category]) (Nat.le_of_ble_eq_true rfl) (fun J X hR => ?_)
  show J S 0 [some (.int (nI b)), some (.int (nI k))] []
  refine r_iload_n X d_Split_partIndex_0 (by rfl) ?_
  refine r_iconst X (x := (nI 3)) d_Split_partIndex_1 (by decide) ?_
  first | refine r_imulN X d_Split_partIndex_2 ?_ | refine r_imul X d_Split_partIndex_2 ?_
  refine r_iload_n X d_Split_partIndex_3 (by rfl) ?_
  first | refine r_iaddN X d_Split_partIndex_4 ?_ | refine r_iadd X d_Split_partIndex_4 ?_
  refine r_iconst X (x := (nI 1)) d_Split_partIndex_5 (by decide) ?_
  first | refine r_isubN X d_Split_partIndex_6 (by omega) ?_ | refine r_isub X d_Split_partIndex_6 ?_
  exact hR _ _ _ _ d_Split_partIndex_7 rfl ⟨_, rfl, rfl, rfl⟩
end S1
