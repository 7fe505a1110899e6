section T2
variable {l : Launch} {D : va_G} {cI cT : ClassId} {G : Gm} {S : Sg}
def blw (e : Nat → Nat) (x : Int32) : Nat → Nat
  | 0 => 1
  | b + 1 => blw e x b * pw (em (x + nI b)) (e b) % 10007
theorem blw_lt (e : Nat → Nat) (x : Int32) (b : Nat) : blw e x b < 10007 := by
  cases b with
  | zero => exact (by decide : 1 < 10007)
  | succ b => exact Nat.mod_lt _ (by decide)
theorem pwl (b n : Nat) : pw b n < 10007 := pw_lt (b := 0) (n := 0) 32 1 b n (by decide)
def tvl (n : Nat) (N e : Nat → Nat) (z : Nat) (x : Int32) : Nat := (pw (if x < 0 then iv z else z) x.toInt.natAbs * hn N (em x) n 0 % 10007) * iv (blw e x 8) % 10007
theorem abs_nI {x : Int32} (h1 : -1000 ≤ x.toInt) (h2 : x.toInt ≤ 1000) : (if 0 ≤ x then x else 0 - x) = nI x.toInt.natAbs := by
  apply i32_ext
  rw [nI_toInt (by omega)]
  split
  · next h => rw [Int32.le_iff_toInt_le, Int32.toInt_zero] at h; omega
  · next h =>
    rw [Int32.le_iff_toInt_le, Int32.toInt_zero] at h
    rw [Int32.toInt_sub, Int32.toInt_zero]
    unfold Int.bmod
    simp only
    split <;> omega
set_option maxHeartbeats 4000000 in
set_option maxRecDepth 100000 in
theorem c_tat {t n z : Nat} {N e : Nat → Nat} {x : Int32} (hp : isT G t n) (hN : okP n N) (hE : okE e) (hz : z < 10007) (hx1 : -1000 ≤ x.toInt) (hx2 : x.toInt ≤ 1000) (hs : tIs S t n N e z) : CT (mkE l D cI cT) G y_Term_at b_Term_at 5 (some .int) 2 [.ref t, .int x] S (Pi (fun S' r => S' = S ∧ r = nI (tvl n N e z x))) := by
  obtain ⟨hT, hpp, he⟩ := hp
  have hpp0 := hpp
  obtain ⟨hq, ha, hn2, hnn⟩ := hpp
  refine mk_i (by decide) (eok l D cI cT) (by simp [Value.category]) (Nat.le_of_ble_eq_true rfl) (fun J X hR => ?_)
  show J S 0 [some (.ref t), some (.int x), none, none, none] []
  have fin : ∀ b v, b = (if x < 0 then iv z else z) → J S 60 [some (.ref t), some (.int x), some (.int (nI (blw e x 8))), some (.int (nI 8)), v] [.int (nI b)] := by
    intro b v hb
    have hb7 : b < 10007 := by rw [hb]; split; exact iv_lt z; exact hz
    have hem := em_lt x
    have h2 := hn_lt N (em x) n 0
    have h3 := pwl b x.toInt.natAbs
    have h4 := blw_lt e x 8
    refine r_istore_n X d_Term_at_60 (by decide) ?_
    refine r_iload_n X d_Term_at_61 (by rfl) ?_
    refine r_iload_n X d_Term_at_62 (by rfl) ?_
    refine r_mabs X lm_Term_67 (by decide) (Nat.le_of_ble_eq_true rfl) d_Term_at_63 ?_
    refine r_int (abs_nI hx1 hx2) ?_
    refine r_cSi X ls_Term_60 (c_raise (n := x.toInt.natAbs) hb7 (by omega)) (by decide) rfl (Nat.le_of_ble_eq_true rfl) d_Term_at_66 rfl (fun S1 r h1 => ?_)
    obtain ⟨rfl, rfl⟩ := h1
    refine r_aload_n X d_Term_at_69 (by rfl) ?_
    refine r_get X lf_Term_14 d_Term_at_70 (by assumption) (by rfl) ?_
    refine r_iload_n X d_Term_at_73 (by rfl) ?_
    refine r_cSi X ls_Term_54 c_of (by decide) rfl (Nat.le_of_ble_eq_true rfl) d_Term_at_74 rfl (fun S1 r h1 => ?_)
    obtain ⟨rfl, rfl⟩ := h1
    refine r_cVi X lv_Term_72 (c_at hpp0 hN hs.1 hem) (by assumption) (by decide) rfl (Nat.le_of_ble_eq_true rfl) d_Term_at_77 rfl (fun S1 r h1 => ?_)
    obtain ⟨rfl, rfl⟩ := h1
    have hm := mul_bd h3 h2
    first | refine r_imulN X d_Term_at_80 ?_ | refine r_imul X d_Term_at_80 ?_
    refine r_sipush X (x := (nI 10007)) d_Term_at_81 (by decide) ?_
    refine r_iremN X d_Term_at_84 (by decide) (by decide) (by omega) ?_
    refine r_istore X d_Term_at_85 (by decide) ?_
    refine r_iload X d_Term_at_87 (by rfl) ?_
    refine r_iload_n X d_Term_at_89 (by rfl) ?_
    refine r_cSi X ls_Term_64 (c_invert h4) (by decide) rfl (Nat.le_of_ble_eq_true rfl) d_Term_at_90 rfl (fun S1 r h1 => ?_)
    obtain ⟨rfl, rfl⟩ := h1
    have hm2 := mul_bd (Nat.mod_lt (pw b x.toInt.natAbs * hn N (em x) n 0) (by decide : 0 < 10007)) (iv_lt (blw e x 8))
    first | refine r_imulN X d_Term_at_93 ?_ | refine r_imul X d_Term_at_93 ?_
    refine r_sipush X (x := (nI 10007)) d_Term_at_94 (by decide) ?_
    refine r_iremN X d_Term_at_97 (by decide) (by decide) (by omega) ?_
    refine hR _ _ _ _ d_Term_at_98 rfl ⟨_, rfl, rfl, ?_⟩
    unfold tvl
    rw [← hb]
  have loop : ∀ m b v, b + m = 8 → J S 4 [some (.ref t), some (.int x), some (.int (nI (blw e x b))), some (.int (nI b)), v] [] := by
    intro m
    induction m with
    | zero =>
      intro b v hb
      have hb8 : b = 8 := by omega
      subst hb8
      refine r_iload_n X d_Term_at_4 (by rfl) ?_
      refine r_bipush X (x := (nI 8)) d_Term_at_5 (by decide) ?_
      refine r_icmp_geN X d_Term_at_7 (tgt := 42) (by decide) (by omega) (by omega) (fun hc => ?_) (fun hc => ?_)
      · refine r_iload_n X d_Term_at_42 (by rfl) ?_
        refine r_if_ge X d_Term_at_43 (tgt := 56) (by decide) (fun hc2 => ?_) (fun hc2 => ?_)
        · refine r_aload_n X d_Term_at_56 (by rfl) ?_
          refine r_get X lf_Term_24 d_Term_at_57 (by assumption) (by rfl) ?_
          rw [hs.2.2]
          exact fin z _ (by rw [if_neg (Int32.not_lt.mpr hc2)])
        · refine r_aload_n X d_Term_at_46 (by rfl) ?_
          refine r_get X lf_Term_24 d_Term_at_47 (by assumption) (by rfl) ?_
          rw [hs.2.2]
          refine r_cSi X ls_Term_64 (c_invert hz) (by decide) rfl (Nat.le_of_ble_eq_true rfl) d_Term_at_50 rfl (fun S1 r h1 => ?_)
          obtain ⟨rfl, rfl⟩ := h1
          refine r_goto X d_Term_at_53 (tgt := 60) (by decide) ?_
          exact fin (iv z) _ (by rw [if_pos (Int32.not_le.mp hc2)])
      · omega
    | succ m ih =>
      intro b v hb
      have h8 := hE.1 b
      have hem := em_lt (x + nI b)
      have h4 := blw_lt e x b
      have h3 := pwl (em (x + nI b)) (e b)
      have hm := mul_bd h4 h3
      refine r_iload_n X d_Term_at_4 (by rfl) ?_
      refine r_bipush X (x := (nI 8)) d_Term_at_5 (by decide) ?_
      refine r_icmp_geN X d_Term_at_7 (tgt := 42) (by decide) (by omega) (by omega) (fun hc => ?_) (fun hc => ?_)
      · omega
      · refine r_iload_n X d_Term_at_10 (by rfl) ?_
        refine r_iload_n X d_Term_at_11 (by rfl) ?_
        refine r_iadd X d_Term_at_12 ?_
        refine r_cSi X ls_Term_54 c_of (by decide) rfl (Nat.le_of_ble_eq_true rfl) d_Term_at_13 rfl (fun S1 r h1 => ?_)
        obtain ⟨rfl, rfl⟩ := h1
        refine r_istore X d_Term_at_16 (by decide) ?_
        refine r_iload_n X d_Term_at_18 (by rfl) ?_
        refine r_iload X d_Term_at_19 (by rfl) ?_
        refine r_aload_n X d_Term_at_21 (by rfl) ?_
        refine r_get X lf_Term_20 d_Term_at_22 (by assumption) (by rfl) ?_
        refine r_iload_n X d_Term_at_25 (by rfl) ?_
        refine r_iald X d_Term_at_26 (by assumption) (by omega) (by omega) ?_
        rw [hs.2.1]
        refine r_cSi X ls_Term_60 (c_raise (n := e b) hem (by omega)) (by decide) rfl (Nat.le_of_ble_eq_true rfl) d_Term_at_27 rfl (fun S1 r h1 => ?_)
        obtain ⟨rfl, rfl⟩ := h1
        first | refine r_imulN X d_Term_at_30 ?_ | refine r_imul X d_Term_at_30 ?_
        refine r_sipush X (x := (nI 10007)) d_Term_at_31 (by decide) ?_
        refine r_iremN X d_Term_at_34 (by decide) (by decide) (by omega) ?_
        refine r_istore_n X d_Term_at_35 (by decide) ?_
        refine r_iincN X 1 d_Term_at_36 (by rfl) (by decide) (by decide) ?_
        refine r_goto X d_Term_at_39 (tgt := 4) (by decide) ?_
        exact ih (b + 1) _ (by omega)
  refine r_iconst X (x := (nI 1)) d_Term_at_0 (by decide) ?_
  refine r_istore_n X d_Term_at_1 (by decide) ?_
  refine r_iconst X (x := (nI 0)) d_Term_at_2 (by decide) ?_
  refine r_istore_n X d_Term_at_3 (by decide) ?_
  exact loop 8 0 _ (by omega)
def strip (n r : Nat) : Nat → (Nat → Nat) → (Nat → Nat) × Nat
  | 0, N => (N, 0)
  | k + 1, N => if hn N r n 0 = 0 then strip n r k (dq n r N) else (N, k + 1)
def rt (b : Nat) : Nat := (10007 - b) % 10007
def nrl (n : Nat) : Nat → Nat → (Nat → Nat) → (Nat → Nat) → (Nat → Nat) × (Nat → Nat)
  | 0, _, N, e => (N, e)
  | m + 1, b, N, e => nrl n m (b + 1) (strip n (rt b) (e b) N).1 (va_up e b (strip n (rt b) (e b) N).2)
theorem strip_ok {n r : Nat} : ∀ (k : Nat) {N : Nat → Nat}, okP n N → okP n (strip n r k N).1 ∧ (strip n r k N).2 ≤ k := by
  intro k
  induction k with
  | zero => intro N h; exact ⟨h, Nat.le_refl _⟩
  | succ k ih =>
    intro N h
    unfold strip
    split
    · have := ih (dq_ok n r N)
      exact ⟨this.1, by omega⟩
    · exact ⟨h, Nat.le_refl _⟩
theorem okE.up {e : Nat → Nat} {b k : Nat} (h : okE e) (hb : b < 9) (hk : k < 100) : okE (va_up e b k) := by
  refine ⟨fun i => ?_, fun i hi => ?_⟩
  · unfold va_up
    split
    · exact hk
    · exact h.1 i
  · rw [va_up_n (by omega)]
    exact h.2 i hi
theorem nrl_ok {n : Nat} : ∀ (m b : Nat) {N e : Nat → Nat}, b + m = 9 → okP n N → okE e → okP n (nrl n m b N e).1 ∧ okE (nrl n m b N e).2 := by
  intro m
  induction m with
  | zero => intro b N e _ h1 h2; exact ⟨h1, h2⟩
  | succ m ih =>
    intro b N e hb h1 h2
    have := strip_ok (r := rt b) (e b) h1
    have h3 := h2.1 b
    exact ih (b + 1) (by omega) this.1 (h2.up (by omega) (by omega))
def nrN (n : Nat) (N e : Nat → Nat) : Nat → Nat := if tp N n = 0 then fun _ => 0 else (nrl n 9 0 N e).1
def nrE (n : Nat) (N e : Nat → Nat) : Nat → Nat := if tp N n = 0 then fun _ => 0 else (nrl n 9 0 N e).2
def nrZ (n : Nat) (N : Nat → Nat) (z : Nat) : Nat := if tp N n = 0 then 1 else z
theorem nrN_ok {n : Nat} {N e : Nat → Nat} (h1 : okP n N) (h2 : okE e) : okP n (nrN n N e) ∧ okE (nrE n N e) := by
  unfold nrN nrE
  split
  · exact ⟨⟨fun _ => (by decide : 0 < 10007), fun _ _ => rfl⟩, fun _ => (by decide : 0 < 100), fun _ _ => rfl⟩
  · exact nrl_ok 9 0 rfl h1 h2
set_option maxHeartbeats 4000000 in
set_option maxRecDepth 100000 in
theorem c_normalise {t n z : Nat} {N e : Nat → Nat} (hp : isT G t n) (hN : okP n N) (hE : okE e) (hs : tIs S t n N e z) : CT (mkE l D cI cT) G y_Term_normalise b_Term_normalise 3 none 3 [.ref t] S (Pv (fun S' => tIs S' t n (nrN n N e) (nrE n N e) (nrZ n N z) ∧ Out S S' t 4)) := by
  have hp0 := hp
  obtain ⟨hT, hpp, he⟩ := hp
  have hpp0 := hpp
  obtain ⟨hq, ha, hn2, hnn⟩ := hpp
  refine mk_v (by decide) (eok l D cI cT) (by simp [Value.category]) (Nat.le_of_ble_eq_true rfl) (fun J X hR => ?_)
  show J S 0 [some (.ref t), none, none] []
  have outer : 0 < tp N n → ∀ m b M f S1 v, b + m = 9 → okP n M → okE f → tIs S1 t n M f z → Out S S1 t 4 → nrl n m b M f = nrl n 9 0 N e → J S1 14 [some (.ref t), some (.int (nI b)), v] [] := by
    intro hpos m
    induction m with
    | zero =>
      intro b M f S1 v hb hM hF hs1 ho heq
      refine r_iload_n X d_Term_normalise_14 (by rfl) ?_
      refine r_bipush X (x := (nI 8)) d_Term_normalise_15 (by decide) ?_
      refine r_icmp_gtN X d_Term_normalise_17 (tgt := 74) (by decide) (by omega) (by omega) (fun hc => ?_) (fun hc => ?_)
      · refine hR _ _ _ d_Term_normalise_74 ⟨rfl, ?_, ho⟩
        unfold nrN nrE nrZ
        rw [if_neg (by omega), if_neg (by omega), if_neg (by omega), ← heq]
        exact hs1
      · omega
    | succ m ih =>
      intro b M f S1 v hb hM hF hs1 ho heq
      have hr7 : rt b < 10007 := Nat.mod_lt _ (by decide)
      have inner : ∀ k K S2, okP n K → k < 100 → tIs S2 t n K (va_up f b k) z → Out S S2 t 4 → strip n (rt b) k K = strip n (rt b) (f b) M → J S2 26 [some (.ref t), some (.int (nI b)), some (.int (nI (rt b)))] [] := by
        intro k
        have out : ∀ K S2, okP n K → k < 100 → tIs S2 t n K (va_up f b k) z → Out S S2 t 4 → (K, k) = strip n (rt b) (f b) M → J S2 68 [some (.ref t), some (.int (nI b)), some (.int (nI (rt b)))] [] := by
          intro K S2 hK hk hs2 ho2 hst
          refine r_iincN X 1 d_Term_normalise_68 (by rfl) (by decide) (by decide) ?_
          refine r_goto X d_Term_normalise_71 (tgt := 14) (by decide) ?_
          refine ih (b + 1) K (va_up f b k) S2 _ (by omega) hK (hF.up (by omega) hk) hs2 ho2 ?_
          rw [← heq]
          show _ = nrl n m (b + 1) (strip n (rt b) (f b) M).1 (va_up f b (strip n (rt b) (f b) M).2)
          rw [← hst]
        induction k with
        | zero =>
          intro K S2 hK hk hs2 ho2 hst
          refine r_aload_n X d_Term_normalise_26 (by rfl) ?_
          refine r_get X lf_Term_20 d_Term_normalise_27 (by assumption) (by rfl) ?_
          refine r_iload_n X d_Term_normalise_30 (by rfl) ?_
          refine r_iald X d_Term_normalise_31 (by assumption) (by omega) (by omega) ?_
          rw [hs2.2.1, va_up_s]
          refine r_if_leN X d_Term_normalise_32 (tgt := 68) (by decide) (by omega) (fun hc => ?_) (fun hc => ?_)
          · exact out K S2 hK hk hs2 ho2 hst
          · omega
        | succ k ihk =>
          intro K S2 hK hk hs2 ho2 hst
          have hst : (if hn K (rt b) n 0 = 0 then strip n (rt b) k (dq n (rt b) K) else (K, k + 1)) = strip n (rt b) (f b) M := hst
          have hh := hn_lt K (rt b) n 0
          refine r_aload_n X d_Term_normalise_26 (by rfl) ?_
          refine r_get X lf_Term_20 d_Term_normalise_27 (by assumption) (by rfl) ?_
          refine r_iload_n X d_Term_normalise_30 (by rfl) ?_
          refine r_iald X d_Term_normalise_31 (by assumption) (by omega) (by omega) ?_
          rw [hs2.2.1, va_up_s]
          refine r_if_leN X d_Term_normalise_32 (tgt := 68) (by decide) (by omega) (fun hc => ?_) (fun hc => ?_)
          · omega
          · refine r_aload_n X d_Term_normalise_35 (by rfl) ?_
            refine r_get X lf_Term_14 d_Term_normalise_36 (by assumption) (by rfl) ?_
            refine r_iload_n X d_Term_normalise_39 (by rfl) ?_
            refine r_cVi X lv_Term_72 (c_at hpp0 hK hs2.1 hr7) (by assumption) (by decide) rfl (Nat.le_of_ble_eq_true rfl) d_Term_normalise_40 rfl (fun S3 r h3 => ?_)
            obtain ⟨rfl, rfl⟩ := h3
            refine r_if_neN X d_Term_normalise_43 (tgt := 68) (by decide) (by omega) (fun hc => ?_) (fun hc => ?_)
            · rw [if_neg hc] at hst
              exact out K S3 hK hk hs2 ho2 hst
            · rw [if_pos hc] at hst
              refine r_aload_n X d_Term_normalise_46 (by rfl) ?_
              refine r_get X lf_Term_14 d_Term_normalise_47 (by assumption) (by rfl) ?_
              refine r_iload_n X d_Term_normalise_50 (by rfl) ?_
              refine r_cVi X lv_Term_80 (c_divideBy (b := b) hpp0 hK hs2.1 (by omega)) (by assumption) (by decide) rfl (Nat.le_of_ble_eq_true rfl) d_Term_normalise_51 rfl (fun S4 r h4 => ?_)
              obtain ⟨⟨h4, ho4⟩, rfl⟩ := h4
              have e4 : S4.1 (t + 3) b = k + 1 := by rw [ho4.a1 (by omega), hs2.2.1, va_up_s]
              refine r_pop X d_Term_normalise_54 (by rfl) ?_
              refine r_aload_n X d_Term_normalise_55 (by rfl) ?_
              refine r_get X lf_Term_20 d_Term_normalise_56 (by assumption) (by rfl) ?_
              refine r_iload_n X d_Term_normalise_59 (by rfl) ?_
              refine r_dup2 X d_Term_normalise_60 (by rfl) (by rfl) ?_
              refine r_iald X d_Term_normalise_61 (by assumption) (by omega) (by omega) ?_
              rw [e4]
              refine r_iconst X (x := (nI 1)) d_Term_normalise_62 (by decide) ?_
              first | refine r_isubN X d_Term_normalise_63 (by omega) ?_ | refine r_isub X d_Term_normalise_63 ?_
              refine r_iast X d_Term_normalise_64 (by assumption) (by omega) (by omega) ?_
              refine r_goto X d_Term_normalise_65 (tgt := 26) (by decide) ?_
              refine ihk ?_ (dq n (rt b) K) _ (dq_ok n (rt b) K) (by omega) ⟨?_, ?_, ?_⟩ ?_ hst
              · intro K S2 hK hk hs2 ho2 hst
                exact (by
                  refine r_iincN X 1 d_Term_normalise_68 (by rfl) (by decide) (by decide) ?_
                  refine r_goto X d_Term_normalise_71 (tgt := 14) (by decide) ?_
                  refine ih (b + 1) K (va_up f b k) S2 _ (by omega) hK (hF.up (by omega) hk) hs2 ho2 ?_
                  rw [← heq]
                  show _ = nrl n m (b + 1) (strip n (rt b) (f b) M).1 (va_up f b (strip n (rt b) (f b) M).2)
                  rw [← hst])
              · exact h4.out (Out.ar (a := t + 3) (q := t + 3) (w := 1) (by omega) (by omega)) (by omega)
              · rw [arS_1, ho4.a1 (by omega), hs2.2.1, va_up_up]
                rfl
              · rw [arS_2, ho4.a2 (by omega)]
                exact hs2.2.2
              · exact (ho2.trans (ho4.wide (by omega) (by omega))).trans (Out.ar (by omega) (by omega))
      refine r_iload_n X d_Term_normalise_14 (by rfl) ?_
      refine r_bipush X (x := (nI 8)) d_Term_normalise_15 (by decide) ?_
      refine r_icmp_gtN X d_Term_normalise_17 (tgt := 74) (by decide) (by omega) (by omega) (fun hc => ?_) (fun hc => ?_)
      · omega
      · refine r_iload_n X d_Term_normalise_20 (by rfl) ?_
        refine r_ineg X d_Term_normalise_21 ?_
        refine r_cSi X ls_Term_54 c_of (by decide) rfl (Nat.le_of_ble_eq_true rfl) d_Term_normalise_22 rfl (fun S2 r h2 => ?_)
        obtain ⟨rfl, rfl⟩ := h2
        rw [em_neg (by omega)]
        refine r_istore_n X d_Term_normalise_25 (by decide) ?_
        refine inner (f b) M _ hM (hF.1 b) ?_ ho rfl
        rw [va_up_id]
        exact hs1
  refine r_aload_n X d_Term_normalise_0 (by rfl) ?_
  refine r_cVi X lv_Term_75 (c_isZero hp0 hs) (by assumption) (by decide) rfl (Nat.le_of_ble_eq_true rfl) d_Term_normalise_1 rfl (fun S1 r h1 => ?_)
  obtain ⟨rfl, ⟨rfl, h1⟩ | ⟨rfl, h1⟩⟩ := h1
  · refine r_if_eqN X d_Term_normalise_4 (tgt := 12) (by decide) (by omega) (fun hc => ?_) (fun hc => ?_)
    · omega
    · refine r_aload_n X d_Term_normalise_7 (by rfl) ?_
      refine r_cVv X lv_Term_79 (c_tclear hp0) (by assumption) (by decide) rfl (Nat.le_of_ble_eq_true rfl) d_Term_normalise_8 rfl (fun S2 h2 => ?_)
      obtain ⟨h2, ho⟩ := h2
      refine hR _ _ _ d_Term_normalise_11 ⟨rfl, ?_, ho⟩
      unfold nrN nrE nrZ
      rw [if_pos h1, if_pos h1, if_pos h1]
      exact h2
  · refine r_if_eqN X d_Term_normalise_4 (tgt := 12) (by decide) (by omega) (fun hc => ?_) (fun hc => ?_)
    · refine r_iconst X (x := (nI 0)) d_Term_normalise_12 (by decide) ?_
      refine r_istore_n X d_Term_normalise_13 (by decide) ?_
      exact outer h1 9 0 N e _ _ (by omega) hN hE hs (Out.rf _ _ _) rfl
    · omega
set_option maxHeartbeats 4000000 in
set_option maxRecDepth 100000 in
theorem c_tproduct {t n u m w k z y : Nat} {N e M f : Nat → Nat} (hp : isT G t n) (hu : isT G u m) (hw : isT G w k) (hne : t ≠ u) (hne' : t ≠ w) (hN : okP m N) (hM : okP k M) (hE : okE e) (hF : okE f) (hE3 : ∀ i, e i ≤ 3) (hF3 : ∀ i, f i ≤ 3) (hz : z < 10007) (hy : y < 10007) (hs : tIs S u m N e z) (hs' : tIs S w k M f y) : CT (mkE l D cI cT) G y_Term_becomeProduct b_Term_becomeProduct 4 none 4 [.ref t, .ref u, .ref w] S (Pv (fun S' => tIs S' t n (nrN n (prd n m N M) (fun i => e i + f i)) (nrE n (prd n m N M) (fun i => e i + f i)) (nrZ n (prd n m N M) (z * y % 10007)) ∧ Out S S' t 4)) := by
  have hp0 := hp
  have sep := hp.sep hu hne
  have sep' := hp.sep hw hne'
  obtain ⟨hT, hpp, he⟩ := hp
  have hpp0 := hpp
  obtain ⟨hq, ha, hn2, hnn⟩ := hpp
  obtain ⟨hU, hpu, hue⟩ := hu
  have hpu0 := hpu
  obtain ⟨hqu, hau, hnu2, hnnu⟩ := hpu
  obtain ⟨hW, hpw, hwe⟩ := hw
  have hpw0 := hpw
  obtain ⟨hqw, haw, hnw2, hnnw⟩ := hpw
  refine mk_v (by decide) (eok l D cI cT) (by simp [Value.category]) (Nat.le_of_ble_eq_true rfl) (fun J X hR => ?_)
  show J S 0 [some (.ref t), some (.ref u), some (.ref w), none] []
  have hm := mul_bd hz hy
  refine r_aload_n X d_Term_becomeProduct_0 (by rfl) ?_
  refine r_aload_n X d_Term_becomeProduct_1 (by rfl) ?_
  refine r_get X lf_Term_24 d_Term_becomeProduct_2 (by assumption) (by rfl) ?_
  refine r_aload_n X d_Term_becomeProduct_5 (by rfl) ?_
  refine r_get X lf_Term_24 d_Term_becomeProduct_6 (by assumption) (by rfl) ?_
  rw [hs.2.2, hs'.2.2]
  first | refine r_imulN X d_Term_becomeProduct_9 ?_ | refine r_imul X d_Term_becomeProduct_9 ?_
  refine r_sipush X (x := (nI 10007)) d_Term_becomeProduct_10 (by decide) ?_
  refine r_iremN X d_Term_becomeProduct_13 (by decide) (by decide) (by omega) ?_
  refine r_put X lp_Term_24 d_Term_becomeProduct_14 (by assumption) (by rfl) (Nat.le_of_ble_eq_true rfl) ?_
  refine r_aload_n X d_Term_becomeProduct_17 (by rfl) ?_
  refine r_get X lf_Term_14 d_Term_becomeProduct_18 (by assumption) (by rfl) ?_
  refine r_aload_n X d_Term_becomeProduct_21 (by rfl) ?_
  refine r_get X lf_Term_14 d_Term_becomeProduct_22 (by assumption) (by rfl) ?_
  refine r_aload_n X d_Term_becomeProduct_25 (by rfl) ?_
  refine r_get X lf_Term_14 d_Term_becomeProduct_26 (by assumption) (by rfl) ?_
  have ho1 : Out S (fdS S t (nI (z * y % 10007))) t 1 := Out.fd (by omega) (by omega)
  have ez : (fdS S t (nI (z * y % 10007))).2 t = nI (z * y % 10007) := fdS_2 _ _ _
  have hs1 := hs.out ho1 (by omega)
  have hs1' := hs'.out ho1 (by omega)
  revert ho1 ez hs1 hs1'
  generalize fdS S t (nI (z * y % 10007)) = S1
  intro ho1 ez hs1 hs1'
  refine r_cVv X lv_Term_83 (c_pproduct hpp0 hpu0 hpw0 (by omega) (by omega) hN hM hs1.1 hs1'.1) (by assumption) (by decide) rfl (Nat.le_of_ble_eq_true rfl) d_Term_becomeProduct_29 rfl (fun S2 h2 => ?_)
  obtain ⟨h2, ho2⟩ := h2
  have hs2 := hs1.out ho2 (by omega)
  have hs2' := hs1'.out ho2 (by omega)
  have hokE : okE (fun i => e i + f i) := ⟨fun i => by have := hE3 i; have := hF3 i; show e i + f i < 100; omega, fun i hi => by show e i + f i = 0; rw [hE.2 i hi, hF.2 i hi]⟩
  have loop : ∀ j b S3, b + j = 9 → S3 = arS S2 (t + 3) (fun i => if i < b then e i + f i else S2.1 (t + 3) i) → J S3 34 [some (.ref t), some (.ref u), some (.ref w), some (.int (nI b))] [] := by
    intro j
    induction j with
    | zero =>
      intro b S3 hb hS
      refine r_iload_n X d_Term_becomeProduct_34 (by rfl) ?_
      refine r_bipush X (x := (nI 8)) d_Term_becomeProduct_35 (by decide) ?_
      refine r_icmp_gtN X d_Term_becomeProduct_37 (tgt := 65) (by decide) (by omega) (by omega) (fun hc => ?_) (fun hc => ?_)
      · refine r_trunc X (f := fun i => e i + f i) he (fun i hi => ?_) ?_
        · rw [hS, arS_1, if_pos (by omega)]
        · rw [hS, arS_arS]
          have ho3 : Out S2 (arS S2 (t + 3) (fun i => e i + f i)) (t + 3) 1 := Out.ar (by omega) (by omega)
          have ht3 : tIs (arS S2 (t + 3) (fun i => e i + f i)) t n (prd n m N M) (fun i => e i + f i) (z * y % 10007) := ⟨h2.out ho3 (by omega), arS_1 _ _ _, by rw [arS_2, ho2.a2 (by omega), ez]⟩
          revert ho3 ht3
          generalize arS S2 (t + 3) (fun i => e i + f i) = S4
          intro ho3 ht3
          refine r_aload_n X d_Term_becomeProduct_65 (by rfl) ?_
          refine r_cVv X lv_Term_87 (c_normalise hp0 (prd_ok n m N M) hokE ht3) (by assumption) (by decide) rfl (Nat.le_of_ble_eq_true rfl) d_Term_becomeProduct_66 rfl (fun S5 h5 => ?_)
          obtain ⟨h5, ho5⟩ := h5
          refine hR _ _ _ d_Term_becomeProduct_69 ⟨rfl, h5, ?_⟩
          exact (((ho1.wide (by omega) (by omega)).trans (ho2.wide (by omega) (by omega))).trans (ho3.wide (by omega) (by omega))).trans ho5
      · omega
    | succ j ih =>
      intro b S3 hb hS
      have e1 : S3.1 (u + 3) b = e b := by rw [hS, arS_1n (by omega), hs2.2.1]
      have e2 : S3.1 (w + 3) b = f b := by rw [hS, arS_1n (by omega), hs2'.2.1]
      refine r_iload_n X d_Term_becomeProduct_34 (by rfl) ?_
      refine r_bipush X (x := (nI 8)) d_Term_becomeProduct_35 (by decide) ?_
      refine r_icmp_gtN X d_Term_becomeProduct_37 (tgt := 65) (by decide) (by omega) (by omega) (fun hc => ?_) (fun hc => ?_)
      · omega
      · refine r_aload_n X d_Term_becomeProduct_40 (by rfl) ?_
        refine r_get X lf_Term_20 d_Term_becomeProduct_41 (by assumption) (by rfl) ?_
        refine r_iload_n X d_Term_becomeProduct_44 (by rfl) ?_
        refine r_aload_n X d_Term_becomeProduct_45 (by rfl) ?_
        refine r_get X lf_Term_20 d_Term_becomeProduct_46 (by assumption) (by rfl) ?_
        refine r_iload_n X d_Term_becomeProduct_49 (by rfl) ?_
        refine r_iald X d_Term_becomeProduct_50 (by assumption) (by omega) (by omega) ?_
        refine r_aload_n X d_Term_becomeProduct_51 (by rfl) ?_
        refine r_get X lf_Term_20 d_Term_becomeProduct_52 (by assumption) (by rfl) ?_
        refine r_iload_n X d_Term_becomeProduct_55 (by rfl) ?_
        refine r_iald X d_Term_becomeProduct_56 (by assumption) (by omega) (by omega) ?_
        rw [e1, e2]
        first | refine r_iaddN X d_Term_becomeProduct_57 ?_ | refine r_iadd X d_Term_becomeProduct_57 ?_
        refine r_iast X d_Term_becomeProduct_58 (by assumption) (by omega) (by omega) ?_
        refine r_iincN X 1 d_Term_becomeProduct_59 (by rfl) (by decide) (by decide) ?_
        refine r_goto X d_Term_becomeProduct_62 (tgt := 34) (by decide) ?_
        refine ih (b + 1) _ (by omega) ?_
        rw [hS, arS_arS, arS_1]
        congr 1
        exact up_lt (fun i => e i + f i) _ b
  refine r_iconst X (x := (nI 0)) d_Term_becomeProduct_32 (by decide) ?_
  refine r_istore_n X d_Term_becomeProduct_33 (by decide) ?_
  refine loop 9 0 _ (by omega) ?_
  rw [if_lt0 (fun i => e i + f i), arS_id]
def sh1 (e : Nat → Nat) : Nat → Nat := fun i => if i = 0 then 0 else if i < 9 then e (i - 1) else 0
theorem sh1_ok {e : Nat → Nat} (h : okE e) : okE (sh1 e) := by
  refine ⟨fun i => ?_, fun i hi => ?_⟩
  · unfold sh1
    split
    · decide
    · split
      · exact h.1 _
      · decide
  · unfold sh1
    rw [if_neg (by omega), if_neg (by omega)]
set_option maxHeartbeats 4000000 in
set_option maxRecDepth 100000 in
theorem c_next {t n u m z : Nat} {N e : Nat → Nat} (hp : isT G t n) (hu : isT G u m) (hne : t ≠ u) (hN : okP m N) (hE : okE e) (hz : z < 10007) (hs : tIs S u m N e z) : CT (mkE l D cI cT) G y_Term_becomeNext b_Term_becomeNext 2 none 2 [.ref t, .ref u] S (Pv (fun S' => tIs S' t n (scl z (tyl n n (cut n N))) (sh1 e) z ∧ Out S S' t 4)) := by
  have sep := hp.sep hu hne
  obtain ⟨hT, hpp, he⟩ := hp
  have hpp0 := hpp
  obtain ⟨hq, ha, hn2, hnn⟩ := hpp
  obtain ⟨hU, hpu, hue⟩ := hu
  have hpu0 := hpu
  obtain ⟨hqu, hau, hnu2, hnnu⟩ := hpu
  refine mk_v (by decide) (eok l D cI cT) (by simp [Value.category]) (Nat.le_of_ble_eq_true rfl) (fun J X hR => ?_)
  show J S 0 [some (.ref t), some (.ref u)] []
  refine r_aload_n X d_Term_becomeNext_0 (by rfl) ?_
  refine r_aload_n X d_Term_becomeNext_1 (by rfl) ?_
  refine r_get X lf_Term_24 d_Term_becomeNext_2 (by assumption) (by rfl) ?_
  rw [hs.2.2]
  refine r_put X lp_Term_24 d_Term_becomeNext_5 (by assumption) (by rfl) (Nat.le_of_ble_eq_true rfl) ?_
  refine r_aload_n X d_Term_becomeNext_8 (by rfl) ?_
  refine r_get X lf_Term_14 d_Term_becomeNext_9 (by assumption) (by rfl) ?_
  refine r_aload_n X d_Term_becomeNext_12 (by rfl) ?_
  refine r_get X lf_Term_14 d_Term_becomeNext_13 (by assumption) (by rfl) ?_
  have ho1 : Out S (fdS S t (nI z)) t 1 := Out.fd (by omega) (by omega)
  have ez : (fdS S t (nI z)).2 t = nI z := fdS_2 _ _ _
  have hs1 := hs.out ho1 (by omega)
  revert ho1 ez hs1
  generalize fdS S t (nI z) = S1
  intro ho1 ez hs1
  refine r_cVv X lv_Term_37 (c_copyFrom hpp0 hpu0 (by omega) hN hs1.1.1) (by assumption) (by decide) rfl (Nat.le_of_ble_eq_true rfl) d_Term_becomeNext_16 rfl (fun S2 h2 => ?_)
  obtain ⟨h2, ho2⟩ := h2
  have hc := cut_ok n hN.1
  refine r_aload_n X d_Term_becomeNext_19 (by rfl) ?_
  refine r_get X lf_Term_14 d_Term_becomeNext_20 (by assumption) (by rfl) ?_
  refine r_cVv X lv_Term_90 (c_moveOn hpp0 hc h2) (by assumption) (by decide) rfl (Nat.le_of_ble_eq_true rfl) d_Term_becomeNext_23 rfl (fun S3 h3 => ?_)
  obtain ⟨h3, ho3⟩ := h3
  have ez3 : S3.2 t = nI z := by rw [ho3.a2 (by omega), ho2.a2 (by omega), ez]
  refine r_aload_n X d_Term_becomeNext_26 (by rfl) ?_
  refine r_get X lf_Term_14 d_Term_becomeNext_27 (by assumption) (by rfl) ?_
  refine r_aload_n X d_Term_becomeNext_30 (by rfl) ?_
  refine r_get X lf_Term_24 d_Term_becomeNext_31 (by assumption) (by rfl) ?_
  rw [ez3]
  refine r_cVv X lv_Term_93 (c_scale hpp0 (tyl_ok hc n) h3 hz) (by assumption) (by decide) rfl (Nat.le_of_ble_eq_true rfl) d_Term_becomeNext_34 rfl (fun S4 h4 => ?_)
  obtain ⟨h4, ho4⟩ := h4
  have ez4 : S4.2 t = nI z := by rw [ho4.a2 (by omega), ez3]
  have hs4 := ((hs1.out ho2 (by omega)).out ho3 (by omega)).out ho4 (by omega)
  refine r_aload_n X d_Term_becomeNext_37 (by rfl) ?_
  refine r_get X lf_Term_20 d_Term_becomeNext_38 (by assumption) (by rfl) ?_
  refine r_iconst X (x := (nI 0)) d_Term_becomeNext_41 (by decide) ?_
  refine r_iconst X (x := (nI 0)) d_Term_becomeNext_42 (by decide) ?_
  refine r_iast X d_Term_becomeNext_43 (by assumption) (by omega) (by omega) ?_
  refine r_aload_n X d_Term_becomeNext_44 (by rfl) ?_
  refine r_get X lf_Term_20 d_Term_becomeNext_45 (by assumption) (by rfl) ?_
  refine r_iconst X (x := (nI 0)) d_Term_becomeNext_48 (by decide) ?_
  refine r_aload_n X d_Term_becomeNext_49 (by rfl) ?_
  refine r_get X lf_Term_20 d_Term_becomeNext_50 (by assumption) (by rfl) ?_
  refine r_iconst X (x := (nI 1)) d_Term_becomeNext_53 (by decide) ?_
  refine r_bipush X (x := (nI 8)) d_Term_becomeNext_54 (by decide) ?_
  refine r_copy X ly_Term_41 (by decide) (by assumption) (by assumption) (by omega) (by omega) (by omega) (by omega) rfl d_Term_becomeNext_56 ?_
  refine r_trunc X (f := sh1 e) he (fun i hi => ?_) ?_
  · rw [arS_1, arS_1n (a := t + 3) (b := u + 3) (by omega), arS_1, hs4.2.1]
    unfold sh1 va_cpy va_up
    by_cases h0 : i = 0
    · rw [if_pos h0, if_neg (by omega), if_pos h0]
    · rw [if_neg h0, if_pos hi, if_pos (by omega), show 0 + (i - 1) = i - 1 by omega]
  · rw [arS_arS, arS_arS]
    have ho5 : Out S4 (arS S4 (t + 3) (sh1 e)) (t + 3) 1 := Out.ar (by omega) (by omega)
    refine hR _ _ _ d_Term_becomeNext_59 ⟨rfl, ⟨h4.out ho5 (by omega), arS_1 _ _ _, by rw [arS_2, ez4]⟩, ?_⟩
    exact ((((ho1.wide (by omega) (by omega)).trans (ho2.wide (by omega) (by omega))).trans (ho3.wide (by omega) (by omega))).trans (ho4.wide (by omega) (by omega))).trans (ho5.wide (by omega) (by omega))
end T2
