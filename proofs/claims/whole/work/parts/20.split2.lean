section S2
variable {l : Launch} {D : va_G} {cI cT : ClassId} {G : Gm} {S : Sg}
set_option maxHeartbeats 4000000 in
set_option maxRecDepth 100000 in
theorem c_mulPoles {q n a o k : Nat} {f e : Nat → Nat} (hp : isP G q n) (ha9 : G a = some (kArr 9)) (hqa : a + 1 ≤ q ∨ q + 2 ≤ a) (hf : okP n f) (hE : okE e) (hs : pIs S q n f) (he : S.1 a = e) (ho : o < 8) (hk : k ≤ e o) : CT (mkE l D cI cT) G y_Split_multiplyByPoles b_Split_multiplyByPoles 5 none 2 [.ref q, .ref a, .int (nI o), .int (nI k)] S (Pv (fun S' => pIs S' q n (wd n (va_up e o (e o - k)) 8 f) ∧ Out S S' q 2)) := by
  have hp0 := hp
  obtain ⟨hq, ha, hn2, hnn⟩ := hp
  refine mk_v (by decide) (eok l D cI cT) (by simp [Value.category]) (Nat.le_of_ble_eq_true rfl) (fun J X hR => ?_)
  show J S 0 [some (.ref q), some (.ref a), some (.int (nI o)), some (.int (nI k)), none] []
  have loop : ∀ j b S1, b + j = 8 → pIs S1 q n (wd n (va_up e o (e o - k)) b f) → Out S S1 q 2 → J S1 3 [some (.ref q), some (.ref a), some (.int (nI o)), some (.int (nI k)), some (.int (nI b))] [] := by
    intro j
    induction j with
    | zero =>
      intro b S1 hb h1 ho1
      have hb8 : b = 8 := by omega
      subst hb8
      refine r_iload X d_Split_multiplyByPoles_3 (by rfl) ?_
      refine r_bipush X (x := (nI 8)) d_Split_multiplyByPoles_5 (by decide) ?_
      refine r_icmp_geN X d_Split_multiplyByPoles_7 (tgt := 41) (by decide) (by omega) (by omega) (fun hc => ?_) (fun hc => ?_)
      · exact hR _ _ _ d_Split_multiplyByPoles_41 ⟨rfl, h1, ho1⟩
      · omega
    | succ j ih =>
      intro b S1 hb h1 ho1
      have e1 : S1.1 a b = e b := by rw [ho1.a1 (by omega), he]
      have h100 := hE.1 b
      have next : ∀ v, v = va_up e o (e o - k) b → J S1 32 [some (.ref q), some (.ref a), some (.int (nI o)), some (.int (nI k)), some (.int (nI b))] [.int (nI v), .int (nI b), .ref q] := by
        intro v hv
        have hv100 : v < 1000 := by
          rw [hv]
          unfold va_up
          split
          · have := hE.1 o; omega
          · omega
        refine r_cVv X lv_Split_121 (c_multiplyBy (b := b) (t := v) hp0 (wd_ok hf b) h1 (by omega) hv100) (by assumption) (by decide) rfl (Nat.le_of_ble_eq_true rfl) d_Split_multiplyByPoles_32 rfl (fun S2 h2 => ?_)
        obtain ⟨h2, ho2⟩ := h2
        refine r_iincN X 1 d_Split_multiplyByPoles_35 (by rfl) (by decide) (by decide) ?_
        refine r_goto X d_Split_multiplyByPoles_38 (tgt := 3) (by decide) ?_
        refine ih (b + 1) S2 (by omega) ?_ (ho1.trans ho2)
        rw [hv] at h2
        exact h2
      refine r_iload X d_Split_multiplyByPoles_3 (by rfl) ?_
      refine r_bipush X (x := (nI 8)) d_Split_multiplyByPoles_5 (by decide) ?_
      refine r_icmp_geN X d_Split_multiplyByPoles_7 (tgt := 41) (by decide) (by omega) (by omega) (fun hc => ?_) (fun hc => ?_)
      · omega
      · refine r_aload_n X d_Split_multiplyByPoles_10 (by rfl) ?_
        refine r_iload X d_Split_multiplyByPoles_11 (by rfl) ?_
        refine r_iload X d_Split_multiplyByPoles_13 (by rfl) ?_
        refine r_iload_n X d_Split_multiplyByPoles_15 (by rfl) ?_
        refine r_icmp_neN X d_Split_multiplyByPoles_16 (tgt := 28) (by decide) (by omega) (by omega) (fun hc => ?_) (fun hc => ?_)
        · refine r_aload_n X d_Split_multiplyByPoles_28 (by rfl) ?_
          refine r_iload X d_Split_multiplyByPoles_29 (by rfl) ?_
          refine r_iald X d_Split_multiplyByPoles_31 (by assumption) (by omega) (by omega) ?_
          rw [e1]
          exact next (e b) (by rw [va_up_n hc])
        · refine r_aload_n X d_Split_multiplyByPoles_19 (by rfl) ?_
          refine r_iload X d_Split_multiplyByPoles_20 (by rfl) ?_
          refine r_iald X d_Split_multiplyByPoles_22 (by assumption) (by omega) (by omega) ?_
          rw [e1]
          subst hc
          refine r_iload_n X d_Split_multiplyByPoles_23 (by rfl) ?_
          first | refine r_isubN X d_Split_multiplyByPoles_24 (by omega) ?_ | refine r_isub X d_Split_multiplyByPoles_24 ?_
          refine r_goto X d_Split_multiplyByPoles_25 (tgt := 32) (by decide) ?_
          exact next (e b - k) (by rw [va_up_s])
  refine r_iconst X (x := (nI 0)) d_Split_multiplyByPoles_0 (by decide) ?_
  refine r_istore X d_Split_multiplyByPoles_1 (by decide) ?_
  exact loop 8 0 S (by omega) hs (Out.rf _ _ _)
def dpw (z j : Nat) : Nat → Nat := va_up (mtN 64 1 j (lin 0 z)) j ((mtN 64 1 j (lin 0 z) j + 10006) % 10007)
theorem dpw_ok {z j : Nat} (hz : z < 10007) (hj : j < 64) : okP 64 (dpw z j) := by
  have h := mtN_ok (b := 1) (t := j) (lin_ok (n := 64) (a := 0) (b := z) (by decide) hz (by decide))
  refine ⟨fun i => ?_, fun i hi => ?_⟩
  · unfold dpw va_up
    split
    · exact Nat.mod_lt _ (by decide)
    · exact h.1 i
  · unfold dpw
    rw [va_up_n (by omega)]
    exact h.2 i hi
set_option maxHeartbeats 4000000 in
set_option maxRecDepth 100000 in
theorem c_setDiff {s z j : Nat} (hs : isS G s) (hz : z < 10007) (hj : j < 64) : CT (mkE l D cI cT) G y_Split_setDifferenceOfPower b_Split_setDifferenceOfPower 3 none 3 [.ref s, .int (nI z), .int (nI j)] S (Pv (fun S' => pIs S' (s + 5) 64 (dpw z j) ∧ Out S S' (s + 5) 2)) := by
  obtain ⟨hS, ha1, ha2, hpr, hps, hpw⟩ := hs
  have hps0 := hps
  obtain ⟨hqs, has, -, -⟩ := hps
  refine mk_v (by decide) (eok l D cI cT) (by simp [Value.category]) (Nat.le_of_ble_eq_true rfl) (fun J X hR => ?_)
  show J S 0 [some (.ref s), some (.int (nI z)), some (.int (nI j))] []
  refine r_aload_n X d_Split_setDifferenceOfPower_0 (by rfl) ?_
  refine r_get X lf_Split_27 d_Split_setDifferenceOfPower_1 (by assumption) (by rfl) ?_
  refine r_iconst X (x := (nI 0)) d_Split_setDifferenceOfPower_4 (by decide) ?_
  refine r_iload_n X d_Split_setDifferenceOfPower_5 (by rfl) ?_
  refine r_cVv X lv_Split_118 (c_setLinear (a := 0) (b := z) hps0 (by decide) hz) (by assumption) (by decide) rfl (Nat.le_of_ble_eq_true rfl) d_Split_setDifferenceOfPower_6 rfl (fun S1 h1 => ?_)
  obtain ⟨h1, ho1⟩ := h1
  have hl := lin_ok (n := 64) (a := 0) (b := z) (by decide) hz (by decide)
  refine r_aload_n X d_Split_setDifferenceOfPower_9 (by rfl) ?_
  refine r_get X lf_Split_27 d_Split_setDifferenceOfPower_10 (by assumption) (by rfl) ?_
  refine r_iconst X (x := (nI 1)) d_Split_setDifferenceOfPower_13 (by decide) ?_
  refine r_iload_n X d_Split_setDifferenceOfPower_14 (by rfl) ?_
  refine r_cVv X lv_Split_121 (c_multiplyBy (b := 1) (t := j) hps0 hl h1 (by decide) (by omega)) (by assumption) (by decide) rfl (Nat.le_of_ble_eq_true rfl) d_Split_setDifferenceOfPower_15 rfl (fun S2 h2 => ?_)
  obtain ⟨h2, ho2⟩ := h2
  have hok := mtN_ok (b := 1) (t := j) hl
  have b1 := hok.1 j
  refine r_aload_n X d_Split_setDifferenceOfPower_18 (by rfl) ?_
  refine r_get X lf_Split_27 d_Split_setDifferenceOfPower_19 (by assumption) (by rfl) ?_
  refine r_get X lf_Split_97 d_Split_setDifferenceOfPower_22 (by assumption) (by rfl) ?_
  refine r_iload_n X d_Split_setDifferenceOfPower_25 (by rfl) ?_
  refine r_aload_n X d_Split_setDifferenceOfPower_26 (by rfl) ?_
  refine r_get X lf_Split_27 d_Split_setDifferenceOfPower_27 (by assumption) (by rfl) ?_
  refine r_get X lf_Split_97 d_Split_setDifferenceOfPower_30 (by assumption) (by rfl) ?_
  refine r_iload_n X d_Split_setDifferenceOfPower_33 (by rfl) ?_
  refine r_iald X d_Split_setDifferenceOfPower_34 (by assumption) (by omega) (by omega) ?_
  rw [h2.1]
  refine r_iconst X (x := nI 1) d_Split_setDifferenceOfPower_35 (by decide) ?_
  refine r_isub X d_Split_setDifferenceOfPower_36 ?_
  refine r_cSi X ls_Split_73 c_of (by decide) rfl (Nat.le_of_ble_eq_true rfl) d_Split_setDifferenceOfPower_37 rfl (fun S3 r h3 => ?_)
  obtain ⟨rfl, rfl⟩ := h3
  rw [em_sub b1 (by decide)]
  refine r_iast X d_Split_setDifferenceOfPower_40 (by assumption) (by omega) (by omega) ?_
  refine r_aload_n X d_Split_setDifferenceOfPower_41 (by rfl) ?_
  refine r_get X lf_Split_27 d_Split_setDifferenceOfPower_42 (by assumption) (by rfl) ?_
  have e3 : (arS S3 (s + 5 + 1) (va_up (S3.1 (s + 5 + 1)) j ((mtN 64 1 j (lin 0 z) j + (10007 - 1)) % 10007))).1 (s + 5 + 1) = dpw z j := by
    rw [arS_1, h2.1]
    rfl
  have ho3 : Out S3 (arS S3 (s + 5 + 1) (va_up (S3.1 (s + 5 + 1)) j ((mtN 64 1 j (lin 0 z) j + (10007 - 1)) % 10007))) (s + 5) 2 := Out.ar (by omega) (by omega)
  revert e3 ho3
  generalize arS S3 (s + 5 + 1) (va_up (S3.1 (s + 5 + 1)) j ((mtN 64 1 j (lin 0 z) j + (10007 - 1)) % 10007)) = S4
  intro e3 ho3
  refine r_cVv X lv_Split_100 (c_trim hps0 (fun i _ => by rw [e3]; exact (dpw_ok hz hj).1 i)) (by assumption) (by decide) rfl (Nat.le_of_ble_eq_true rfl) d_Split_setDifferenceOfPower_45 rfl (fun S5 h5 => ?_)
  subst h5
  exact hR _ _ _ d_Split_setDifferenceOfPower_48 ⟨rfl, pIs_trim e3, ((ho1.trans ho2).trans ho3).trans (Out.fd (by omega) (by omega))⟩
theorem dq_32 {r : Nat} {f : Nat → Nat} (h : okP 32 f) : okP 32 (dq 64 r f) := ⟨(dq_ok 64 r f).1, fun i hi => hn_0 (fun j hj => h.2 j (by omega))⟩
theorem rdq_32 {r : Nat} {f : Nat → Nat} (h : okP 32 f) : ∀ k, okP 32 (rdq r k f)
  | 0 => h
  | k + 1 => dq_32 (rdq_32 h k)
def qdv (e : Nat → Nat) : Nat → (Nat → Nat) → Nat → Nat
  | 0, f => f
  | k + 1, f => rdq (rt k) (e k) (qdv e k f)
theorem qdv_32 {e : Nat → Nat} {f : Nat → Nat} (h : okP 32 f) : ∀ k, okP 32 (qdv e k f)
  | 0 => h
  | k + 1 => rdq_32 (qdv_32 h k) _
def pj (z i : Nat) : Nat := if z = 1 then i + 1 else i
def ld (z i : Nat) : Nat := if z = 1 then i + 1 else z - 1
def swh (z : Nat) : Nat → (Nat → Nat) → (Nat → Nat) → Nat → Nat
  | 0, _, X => X
  | i + 1, R, X => swh z i (ads 64 ((10007 - R i * iv (ld z i) % 10007) % 10007) R (dpw z (pj z i))) (va_up X (pj z i) (R i * iv (ld z i) % 10007))
set_option maxHeartbeats 8000000 in
set_option maxRecDepth 100000 in
theorem c_splitWhole {s u m z : Nat} {N e : Nat → Nat} (hs : isS G s) (hu : isT G u m) (hN : okP 32 N) (hm : 32 ≤ m) (hE : okE e) (hz0 : 0 < z) (hz : z < 10007) (hu1 : tIs S u m N e z) : CT (mkE l D cI cT) G y_Split_splitWhole b_Split_splitWhole 5 none 4 [.ref s, .ref u] S (Pv (fun S' => pIs S' (s + 7) 64 (swh z (tp (qdv e 8 N) 64) (qdv e 8 N) (fun _ => 0)) ∧ okP 64 (swh z (tp (qdv e 8 N) 64) (qdv e 8 N) (fun _ => 0)) ∧ Ex (fun a => s + 3 ≤ a ∧ a < s + 9) S S')) := by
  have hs0 := hs
  have hsep := hu.sepS hs
  obtain ⟨hS, ha1, ha2, hpr, hps, hpw⟩ := hs
  have hpr0 := hpr
  have hps0 := hps
  have hpw0 := hpw
  obtain ⟨hqr, har, -, -⟩ := hpr
  obtain ⟨hqs, has, -, -⟩ := hps
  obtain ⟨hqw, haw, -, -⟩ := hpw
  obtain ⟨hU, hpu, hue⟩ := hu
  have hpu0 := hpu
  obtain ⟨hqu, hau, hm2, hm64⟩ := hpu
  refine mk_v (by decide) (eok l D cI cT) (by simp [Value.category]) (Nat.le_of_ble_eq_true rfl) (fun J X hR => ?_)
  show J S 0 [some (.ref s), some (.ref u), none, none, none] []
  have hcutN : cut 64 N = N := cut_id (fun i hi => hN.2 i (by omega))
  have third : ∀ i R Xw v w S2, i ≤ 32 → okP 64 R → okP 64 Xw → pIs S2 (s + 3) 64 R → S2.1 (s + 8) = Xw → Ex (fun a => s + 3 ≤ a ∧ a < s + 9) S S2 → swh z i R Xw = swh z (tp (qdv e 8 N) 64) (qdv e 8 N) (fun _ => 0) → J S2 67 [some (.ref s), some (.ref u), some (.int (tI i)), v, w] [] := by
    intro i
    induction i with
    | zero =>
      intro R Xw v w S2 hi hR0 hX hp hw hx heq
      refine r_iload_n X d_Split_splitWhole_67 (by rfl) ?_
      refine r_if_ltT X d_Split_splitWhole_68 (tgt := 174) (by decide) (by omega) (fun hc => ?_) (fun u hc => ?_)
      · refine r_aload_n X d_Split_splitWhole_174 (by rfl) ?_
        refine r_get X lf_Split_30 d_Split_splitWhole_175 (by assumption) (by rfl) ?_
        refine r_cVv X lv_Split_100 (c_trim hpw0 (fun i _ => by rw [show s + 7 + 1 = s + 8 by omega, hw]; exact hX.1 i)) (by assumption) (by decide) rfl (Nat.le_of_ble_eq_true rfl) d_Split_splitWhole_178 rfl (fun S3 h3 => ?_)
        subst h3
        refine hR _ _ _ d_Split_splitWhole_181 ⟨rfl, ?_, ?_, ?_⟩
        · rw [← heq]
          exact pIs_trim hw
        · rw [← heq]
          exact hX
        · exact hx.trans ((Out.fd (q := s + 7) (w := 1) (by omega) (by omega)).ex (fun a h1 h2 => by omega))
      · omega
    | succ i ih =>
      intro R Xw v w S2 hi hR0 hX hp hw hx heq
      have hu2 := hu1.ex hx (fun a h1 h2 => by omega)
      have bR := hR0.1 i
      have hj : pj z i < 64 := by unfold pj; split <;> omega
      have hld : ld z i < 10007 := by unfold ld; split <;> omega
      have hc7 : R i * iv (ld z i) % 10007 < 10007 := Nat.mod_lt _ (by decide)
      have hml := mul_bd bR (iv_lt (ld z i))
      have fin : J S2 107 [some (.ref s), some (.ref u), some (.int (nI i)), some (.int (nI (pj z i))), some (.int (nI (ld z i)))] [] := by
        refine r_aload_n X d_Split_splitWhole_107 (by rfl) ?_
        refine r_get X lf_Split_30 d_Split_splitWhole_108 (by assumption) (by rfl) ?_
        refine r_get X lf_Split_97 d_Split_splitWhole_111 (by assumption) (by rfl) ?_
        refine r_iload_n X d_Split_splitWhole_114 (by rfl) ?_
        refine r_aload_n X d_Split_splitWhole_115 (by rfl) ?_
        refine r_get X lf_Split_23 d_Split_splitWhole_116 (by assumption) (by rfl) ?_
        refine r_get X lf_Split_97 d_Split_splitWhole_119 (by assumption) (by rfl) ?_
        refine r_iload_n X d_Split_splitWhole_122 (by rfl) ?_
        refine r_iald X d_Split_splitWhole_123 (by assumption) (by omega) (by omega) ?_
        rw [hp.1]
        refine r_iload X d_Split_splitWhole_124 (by rfl) ?_
        refine r_cSi X ls_Split_81 (c_invert hld) (by decide) rfl (Nat.le_of_ble_eq_true rfl) d_Split_splitWhole_126 rfl (fun S3 r h3 => ?_)
        obtain ⟨rfl, rfl⟩ := h3
        first | refine r_imulN X d_Split_splitWhole_129 ?_ | refine r_imul X d_Split_splitWhole_129 ?_
        refine r_sipush X (x := (nI 10007)) d_Split_splitWhole_130 (by decide) ?_
        refine r_iremN X d_Split_splitWhole_133 (by decide) (by decide) (by omega) ?_
        refine r_iast X d_Split_splitWhole_134 (by assumption) (by omega) (by omega) ?_
        have hX2 : okP 64 (va_up Xw (pj z i) (R i * iv (ld z i) % 10007)) := by
          refine ⟨fun k => ?_, fun k hk => ?_⟩
          · unfold va_up
            split
            · exact hc7
            · exact hX.1 k
          · rw [va_up_n (by omega)]
            exact hX.2 k hk
        have ho4 : Out S3 (arS S3 (s + 7 + 1) (va_up (S3.1 (s + 7 + 1)) (pj z i) (R i * iv (ld z i) % 10007))) (s + 8) 1 := Out.ar (by omega) (by omega)
        have e4 : (arS S3 (s + 7 + 1) (va_up (S3.1 (s + 7 + 1)) (pj z i) (R i * iv (ld z i) % 10007))).1 (s + 8) = va_up Xw (pj z i) (R i * iv (ld z i) % 10007) := by
          rw [show s + 8 = s + 7 + 1 by omega, arS_1]
          rw [show s + 7 + 1 = s + 8 by omega, hw]
        revert ho4 e4
        generalize arS S3 (s + 7 + 1) (va_up (S3.1 (s + 7 + 1)) (pj z i) (R i * iv (ld z i) % 10007)) = S4
        intro ho4 e4
        have hu4 := hu2.out ho4 (by omega)
        have hp4 := hp.out ho4 (by omega)
        refine r_aload_n X d_Split_splitWhole_135 (by rfl) ?_
        refine r_aload_n X d_Split_splitWhole_136 (by rfl) ?_
        refine r_get X lf_Split_49 d_Split_splitWhole_137 (by assumption) (by rfl) ?_
        rw [hu4.2.2]
        refine r_iload_n X d_Split_splitWhole_140 (by rfl) ?_
        refine r_cVv X lv_Split_110 (c_setDiff hs0 hz hj) (by assumption) (by decide) rfl (Nat.le_of_ble_eq_true rfl) d_Split_splitWhole_141 rfl (fun S5 h5 => ?_)
        obtain ⟨h5, ho5⟩ := h5
        have hp5 := hp4.out ho5 (by omega)
        have e5 : S5.1 (s + 8) = va_up Xw (pj z i) (R i * iv (ld z i) % 10007) := by rw [ho5.a1 (by omega), e4]
        refine r_aload_n X d_Split_splitWhole_144 (by rfl) ?_
        refine r_get X lf_Split_23 d_Split_splitWhole_145 (by assumption) (by rfl) ?_
        refine r_aload_n X d_Split_splitWhole_148 (by rfl) ?_
        refine r_get X lf_Split_27 d_Split_splitWhole_149 (by assumption) (by rfl) ?_
        refine r_aload_n X d_Split_splitWhole_152 (by rfl) ?_
        refine r_get X lf_Split_30 d_Split_splitWhole_153 (by assumption) (by rfl) ?_
        refine r_get X lf_Split_97 d_Split_splitWhole_156 (by assumption) (by rfl) ?_
        refine r_iload_n X d_Split_splitWhole_159 (by rfl) ?_
        refine r_iald X d_Split_splitWhole_160 (by assumption) (by omega) (by omega) ?_
        rw [show s + 7 + 1 = s + 8 by omega, e5, va_up_s]
        refine r_ineg X d_Split_splitWhole_161 ?_
        refine r_cSi X ls_Split_73 c_of (by decide) rfl (Nat.le_of_ble_eq_true rfl) d_Split_splitWhole_162 rfl (fun S6 r h6 => ?_)
        obtain ⟨rfl, rfl⟩ := h6
        rw [em_neg hc7]
        refine r_cVv X lv_Split_114 (c_addScaled (c := (10007 - R i * iv (ld z i) % 10007) % 10007) hpr0 hps0 (by omega) hR0 (dpw_ok hz hj) hp5.1 h5.1 (Nat.mod_lt _ (by decide))) (by assumption) (by decide) rfl (Nat.le_of_ble_eq_true rfl) d_Split_splitWhole_165 rfl (fun S7 h7 => ?_)
        obtain ⟨h7, ho7⟩ := h7
        refine r_iincD X d_Split_splitWhole_168 (by rfl) (by decide) ?_
        refine r_goto X d_Split_splitWhole_171 (tgt := 67) (by decide) ?_
        refine ih _ _ _ _ S7 (by omega) (ads_ok 64 _ _ _) hX2 h7 (by rw [ho7.a1 (by omega)]; exact e5) ?_ heq
        exact ((hx.trans (ho4.ex (fun a h1 h2 => by omega))).trans (ho5.ex (fun a h1 h2 => by omega))).trans (ho7.ex (fun a h1 h2 => by omega))
      have mid : J S2 87 [some (.ref s), some (.ref u), some (.int (nI i)), some (.int (nI (pj z i))), w] [] := by
        refine r_aload_n X d_Split_splitWhole_87 (by rfl) ?_
        refine r_get X lf_Split_49 d_Split_splitWhole_88 (by assumption) (by rfl) ?_
        rw [hu2.2.2]
        refine r_iconst X (x := nI 1) d_Split_splitWhole_91 (by decide) ?_
        refine r_icmp_neN X d_Split_splitWhole_92 (tgt := 99) (by decide) (by omega) (by omega) (fun hc => ?_) (fun hc => ?_)
        · refine r_aload_n X d_Split_splitWhole_99 (by rfl) ?_
          refine r_get X lf_Split_49 d_Split_splitWhole_100 (by assumption) (by rfl) ?_
          rw [hu2.2.2]
          refine r_iconst X (x := (nI 1)) d_Split_splitWhole_103 (by decide) ?_
          first | refine r_isubN X d_Split_splitWhole_104 (by omega) ?_ | refine r_isub X d_Split_splitWhole_104 ?_
          refine r_istore X d_Split_splitWhole_105 (by decide) ?_
          have e1 : ld z i = z - 1 := by unfold ld; rw [if_neg hc]
          rw [← e1]
          exact fin
        · refine r_iload_n X d_Split_splitWhole_95 (by rfl) ?_
          refine r_goto X d_Split_splitWhole_96 (tgt := 105) (by decide) ?_
          refine r_istore X d_Split_splitWhole_105 (by decide) ?_
          have e1 : pj z i = ld z i := by unfold ld pj; rw [if_pos hc, if_pos hc]
          have fin' := fin
          rw [← e1] at fin'
          exact fin'
      refine r_iload_n X d_Split_splitWhole_67 (by rfl) ?_
      refine r_if_ltT X d_Split_splitWhole_68 (tgt := 174) (by decide) (by omega) (fun hc => ?_) (fun u hc => ?_)
      · omega
      · rw [tI_s]
        refine r_aload_n X d_Split_splitWhole_71 (by rfl) ?_
        refine r_get X lf_Split_49 d_Split_splitWhole_72 (by assumption) (by rfl) ?_
        rw [hu2.2.2]
        refine r_iconst X (x := nI 1) d_Split_splitWhole_75 (by decide) ?_
        refine r_icmp_neN X d_Split_splitWhole_76 (tgt := 85) (by decide) (by omega) (by omega) (fun hc => ?_) (fun hc => ?_)
        · refine r_iload_n X d_Split_splitWhole_85 (by rfl) ?_
          refine r_istore_n X d_Split_splitWhole_86 (by decide) ?_
          have e1 : pj z i = i := by unfold pj; rw [if_neg hc]
          have mid' := mid
          rw [e1] at mid'
          exact mid'
        · refine r_iload_n X d_Split_splitWhole_79 (by rfl) ?_
          refine r_iconst X (x := (nI 1)) d_Split_splitWhole_80 (by decide) ?_
          first | refine r_iaddN X d_Split_splitWhole_81 ?_ | refine r_iadd X d_Split_splitWhole_81 ?_
          refine r_goto X d_Split_splitWhole_82 (tgt := 86) (by decide) ?_
          refine r_istore_n X d_Split_splitWhole_86 (by decide) ?_
          have e1 : pj z i = i + 1 := by unfold pj; rw [if_pos hc]
          have mid' := mid
          rw [e1] at mid'
          exact mid'
  have second : ∀ j b v S2, b + j = 8 → pIs S2 (s + 3) 64 (qdv e b N) → Ex (fun a => s + 3 ≤ a ∧ a < s + 9) S S2 → J S2 13 [some (.ref s), some (.ref u), some (.int (nI b)), v, none] [] := by
    intro j
    induction j with
    | zero =>
      intro b v S2 hb hp hx
      have hb8 : b = 8 := by omega
      subst hb8
      refine r_iload_n X d_Split_splitWhole_13 (by rfl) ?_
      refine r_bipush X (x := (nI 8)) d_Split_splitWhole_14 (by decide) ?_
      refine r_icmp_geN X d_Split_splitWhole_16 (tgt := 52) (by decide) (by omega) (by omega) (fun hc => ?_) (fun hc => ?_)
      · refine r_aload_n X d_Split_splitWhole_52 (by rfl) ?_
        refine r_get X lf_Split_30 d_Split_splitWhole_53 (by assumption) (by rfl) ?_
        refine r_cVv X lv_Split_106 (c_clear hpw0) (by assumption) (by decide) rfl (Nat.le_of_ble_eq_true rfl) d_Split_splitWhole_56 rfl (fun S3 h3 => ?_)
        obtain ⟨h3, ho3⟩ := h3
        have hp3 := hp.out ho3 (by omega)
        have hq32 := qdv_32 (e := e) hN 8
        have htp : tp (qdv e 8 N) 64 ≤ 32 := by
          rw [show (64 : Nat) = 32 + 32 by rfl, tp_more 32 hq32.2]
          exact tp_le _ _
        refine r_aload_n X d_Split_splitWhole_59 (by rfl) ?_
        refine r_get X lf_Split_23 d_Split_splitWhole_60 (by assumption) (by rfl) ?_
        refine r_get X lf_Split_107 d_Split_splitWhole_63 (by assumption) (by rfl) ?_
        refine r_int hp3.2 ?_
        refine r_istore_n X d_Split_splitWhole_66 (by decide) ?_
        exact third _ _ (fun _ => 0) _ _ S3 htp (hq32.mono (by omega)) ⟨fun _ => (by decide : 0 < 10007), fun _ _ => rfl⟩ hp3 h3.1 (hx.trans (ho3.ex (fun a h1 h2 => by omega))) rfl
      · omega
    | succ j ih =>
      intro b v S2 hb hp hx
      have h100 := hE.1 b
      have inner : ∀ d k S3, k + d = e b → pIs S3 (s + 3) 64 (rdq (rt b) k (qdv e b N)) → Ex (fun a => s + 3 ≤ a ∧ a < s + 9) S S3 → J S3 21 [some (.ref s), some (.ref u), some (.int (nI b)), some (.int (nI k)), none] [] := by
        intro d
        induction d with
        | zero =>
          intro k S3 hk hp3 hx3
          have hu3 := hu1.ex hx3 (fun a h1 h2 => by omega)
          refine r_iload_n X d_Split_splitWhole_21 (by rfl) ?_
          refine r_aload_n X d_Split_splitWhole_22 (by rfl) ?_
          refine r_get X lf_Split_70 d_Split_splitWhole_23 (by assumption) (by rfl) ?_
          refine r_iload_n X d_Split_splitWhole_26 (by rfl) ?_
          refine r_iald X d_Split_splitWhole_27 (by assumption) (by omega) (by omega) ?_
          rw [hu3.2.1]
          refine r_icmp_geN X d_Split_splitWhole_28 (tgt := 46) (by decide) (by omega) (by omega) (fun hc => ?_) (fun hc => ?_)
          · refine r_iincN X 1 d_Split_splitWhole_46 (by rfl) (by decide) (by decide) ?_
            refine r_goto X d_Split_splitWhole_49 (tgt := 13) (by decide) ?_
            refine ih (b + 1) _ S3 (by omega) ?_ hx3
            rw [show k = e b by omega] at hp3
            exact hp3
          · omega
        | succ d ihd =>
          intro k S3 hk hp3 hx3
          have hu3 := hu1.ex hx3 (fun a h1 h2 => by omega)
          refine r_iload_n X d_Split_splitWhole_21 (by rfl) ?_
          refine r_aload_n X d_Split_splitWhole_22 (by rfl) ?_
          refine r_get X lf_Split_70 d_Split_splitWhole_23 (by assumption) (by rfl) ?_
          refine r_iload_n X d_Split_splitWhole_26 (by rfl) ?_
          refine r_iald X d_Split_splitWhole_27 (by assumption) (by omega) (by omega) ?_
          rw [hu3.2.1]
          refine r_icmp_geN X d_Split_splitWhole_28 (tgt := 46) (by decide) (by omega) (by omega) (fun hc => ?_) (fun hc => ?_)
          · omega
          · refine r_aload_n X d_Split_splitWhole_31 (by rfl) ?_
            refine r_get X lf_Split_23 d_Split_splitWhole_32 (by assumption) (by rfl) ?_
            refine r_iload_n X d_Split_splitWhole_35 (by rfl) ?_
            refine r_cVi X lv_Split_66 (c_divideBy (b := b) hpr0 ((rdq_32 (qdv_32 hN b) k).mono (by omega)) hp3 (by omega)) (by assumption) (by decide) rfl (Nat.le_of_ble_eq_true rfl) d_Split_splitWhole_36 rfl (fun S4 r h4 => ?_)
            obtain ⟨⟨h4, ho4⟩, rfl⟩ := h4
            refine r_pop X d_Split_splitWhole_39 (by rfl) ?_
            refine r_iincN X 1 d_Split_splitWhole_40 (by rfl) (by decide) (by decide) ?_
            refine r_goto X d_Split_splitWhole_43 (tgt := 21) (by decide) ?_
            exact ihd (k + 1) S4 (by omega) h4 (hx3.trans (ho4.ex (fun a h1 h2 => by omega)))
      refine r_iload_n X d_Split_splitWhole_13 (by rfl) ?_
      refine r_bipush X (x := (nI 8)) d_Split_splitWhole_14 (by decide) ?_
      refine r_icmp_geN X d_Split_splitWhole_16 (tgt := 52) (by decide) (by omega) (by omega) (fun hc => ?_) (fun hc => ?_)
      · omega
      · refine r_iconst X (x := (nI 0)) d_Split_splitWhole_19 (by decide) ?_
        refine r_istore_n X d_Split_splitWhole_20 (by decide) ?_
        exact inner (e b) 0 S2 (by omega) hp hx
  refine r_aload_n X d_Split_splitWhole_0 (by rfl) ?_
  refine r_get X lf_Split_23 d_Split_splitWhole_1 (by assumption) (by rfl) ?_
  refine r_aload_n X d_Split_splitWhole_4 (by rfl) ?_
  refine r_get X lf_Split_59 d_Split_splitWhole_5 (by assumption) (by rfl) ?_
  refine r_cVv X lv_Split_62 (c_copyFrom hpr0 hpu0 (by omega) (hN.mono hm) hu1.1.1) (by assumption) (by decide) rfl (Nat.le_of_ble_eq_true rfl) d_Split_splitWhole_8 rfl (fun S1 h1 => ?_)
  obtain ⟨h1, ho1⟩ := h1
  rw [hcutN] at h1
  refine r_iconst X (x := (nI 0)) d_Split_splitWhole_11 (by decide) ?_
  refine r_istore_n X d_Split_splitWhole_12 (by decide) ?_
  exact second 8 0 _ S1 (by omega) h1 (ho1.ex (fun a h1 h2 => by omega))
end S2
