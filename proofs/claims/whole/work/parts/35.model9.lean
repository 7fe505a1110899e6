section M9
variable {l : Launch} {D : va_G} {cI cT : ClassId} {G : Gm} {S : Sg}
theorem abs_p {x : Int32} (h : 0 ≤ x) : x = nI x.toInt.natAbs := by
  rw [Int32.le_iff_toInt_le, Int32.toInt_zero] at h
  have := x.toInt_lt
  apply i32_ext
  rw [nI_toInt (by omega)]
  omega
theorem abs_n {x : Int32} (h1 : -1000 ≤ x.toInt) (h : ¬ 0 ≤ x) : -x = nI x.toInt.natAbs := by
  rw [Int32.le_iff_toInt_le, Int32.toInt_zero] at h
  apply i32_ext
  rw [nI_toInt (by omega), Int32.toInt_neg]
  unfold Int.bmod
  simp only
  split <;> omega
theorem em_ne {x : Int32} {b : Nat} (hp : plc x) (hb : b < 8) (h : x + nI b ≠ 0) : fi (em (x + nI b)) ≠ 0 := by
  obtain ⟨h1, h2⟩ := hp
  have ea := add_toInt (u := x) (j := b) (by omega) (by omega) (by omega)
  have hne : (x + nI b).toInt ≠ 0 := fun e => h (by apply i32_ext; rw [e, Int32.toInt_zero])
  refine fi_ne ?_ (em_lt _)
  unfold em
  rw [ea] at hne ⊢
  omega
theorem blw_fi (e : Nat → Nat) (x : Int32) (b : Nat) (h : e b < 100) : fi (blw e x (b + 1)) = fi (blw e x b) * px (fi (em (x + nI b))) (e b) := by
  show fi (blw e x b * pw (em (x + nI b)) (e b) % 10007) = _
  rw [fi_mod, fi_mul, pw_fi (by omega)]
set_option maxHeartbeats 8000000 in
set_option maxRecDepth 100000 in
theorem m_valueAt {m k : Nat} {x : Int32} {V : Vt} (hm : isM G m) (hk : k < 8) (hp : plc x) (hV : MI S m V) (hw : wfV V) : CT (mkE l D cI cT) G y_Model_valueAt b_Model_valueAt 7 (some .int) 4 [.ref m, .int (nI k), .int x] S (Pi (fun S' r => MI S' m V ∧ exM m S S' ∧ ((undf (V k).2.1 x ∧ r = -6) ∨ (¬ undf (V k).2.1 x ∧ r = nI (tv (V k) x))))) := by
  have hm0 := hm
  obtain ⟨hM, hco, hex, hra, hpo, hbe, hwe, hro, hle, hva⟩ := hm
  have wk := hw k hk
  have hz7 := wk.2.2.2.2
  have hp1 := hp.1
  have hp2 := hp.2
  refine mk_i (by decide) (eok l D cI cT) (by simp [Value.category]) (Nat.le_of_ble_eq_true rfl) (fun J X hR => ?_)
  show J S 0 [some (.ref m), some (.int (nI k)), some (.int x), none, none, none, none] []
  refine r_aload_n X d_Model_valueAt_0 (by rfl) ?_
  refine r_iconst X (x := (nI 0)) d_Model_valueAt_1 (by decide) ?_
  refine r_iload_n X d_Model_valueAt_2 (by rfl) ?_
  refine r_cVv X lv_Model_90 (m_load (p := 0) (s := k) hm0 (by omega) hk) (by assumption) (by decide) rfl (Nat.le_of_ble_eq_true rfl) d_Model_valueAt_3 rfl (fun S1 h1 => ?_)
  rw [crw_eq hV.1 hk wk.1] at h1
  have ho1 : Out S S1 (m + 4) 1 := by rw [h1]; exact Out.ar (by omega) (by omega)
  have hV1 : RepM S1 m V := hV.1.ex (ho1.ex (P := fun a => a = m + 4) (fun a h1 h2 => by omega)) (by omega) (by omega) (by omega)
  have f1 : S1.1 (m + 4) = rst (S.1 (m + 4)) 0 (V k).1 := by rw [h1, arS_1]
  have hg1 : okG (S1.1 (m + 4)) := by rw [f1]; exact hV.2.rst 0 (wk.1.mono (by omega))
  have hx1 : exM m S S1 := ho1.ex (fun a h1 h2 => by omega)
  have rk := hV1 k hk
  refine r_aload_n X d_Model_valueAt_6 (by rfl) ?_
  refine r_iconst X (x := (nI 0)) d_Model_valueAt_7 (by decide) ?_
  refine r_iload_n X d_Model_valueAt_8 (by rfl) ?_
  refine r_cVi X lv_Model_59 (m_at (p := 0) (x := x) hm0 (by omega) hg1) (by assumption) (by decide) rfl (Nat.le_of_ble_eq_true rfl) d_Model_valueAt_9 rfl (fun S2 r h2 => ?_)
  obtain ⟨hxs, rfl⟩ := h2
  replace hxs := hxs.symm
  subst hxs
  rw [f1, rowf_rst (wk.1.mono (by omega)), hn_le (m := 32) (k := 80) (by omega) (fun j hj => wk.1.2 j (by omega))]
  have hh7 := hn_lt (V k).1 (em x) 32 0
  have main : ∀ bs o4 o5 o6, bs = (if x < 0 then iv (V k).2.2 else (V k).2.2) → J S1 36 [some (.ref m), some (.int (nI k)), some (.int x), some (.int (nI (hn (V k).1 (em x) 32 0))), o4, o5, o6] [.int (nI bs)] := by
    intro bs o4 o5 o6 hbs
    have hb7 : bs < 10007 := by rw [hbs]; split; exact iv_lt _; exact hz7
    have loop : ∀ n b w o6, b + n = 8 → w < 10007 → (fi w * fi (blw (V k).2.1 x b) = fi (hn (V k).1 (em x) 32 0 * pw bs x.toInt.natAbs % 10007)) → fi (blw (V k).2.1 x b) ≠ 0 → (∀ i, i < b → 0 < (V k).2.1 i → x + nI i ≠ 0) → J S1 63 [some (.ref m), some (.int (nI k)), some (.int x), some (.int (nI w)), some (.int (nI bs)), some (.int (nI b)), o6] [] := by
      intro n
      induction n with
      | zero =>
        intro b w o6 hb hw7 hI hne hno
        have hb8 : b = 8 := by omega
        subst hb8
        refine r_iload X d_Model_valueAt_63 (by rfl) ?_
        refine r_bipush X (x := (nI 8)) d_Model_valueAt_65 (by decide) ?_
        refine r_icmp_geN X d_Model_valueAt_67 (tgt := 124) (by decide) (by omega) (by omega) (fun hc => ?_) (fun hc => ?_)
        · refine r_iload_n X d_Model_valueAt_124 (by rfl) ?_
          refine hR _ _ _ _ d_Model_valueAt_125 rfl ⟨_, rfl, ⟨hV1, hg1⟩, hx1, Or.inr ⟨fun ⟨i, hi, h1, h2⟩ => hno i hi h1 h2, ?_⟩⟩
          congr 1
          refine fi_inj hw7 (tv_lt _ _) ?_
          unfold tv tvl
          rw [fi_mod, fi_mul, fi_mod, fi_mul, iv_fi, ← hbs]
          rw [fi_mod, fi_mul] at hI
          have hiv := mul_inv hne
          grobner
        · omega
      | succ n ih =>
        intro b w o6 hb hw7 hI hne hno
        have be := wk.2.1 b
        have hem := em_lt (x + nI b)
        have inner : ∀ t q w, q + t = (V k).2.1 b → w < 10007 → (fi w * (fi (blw (V k).2.1 x b) * px (fi (em (x + nI b))) q) = fi (hn (V k).1 (em x) 32 0 * pw bs x.toInt.natAbs % 10007)) → (0 < q → x + nI b ≠ 0) → J S1 73 [some (.ref m), some (.int (nI k)), some (.int x), some (.int (nI w)), some (.int (nI bs)), some (.int (nI b)), some (.int (nI q))] [] := by
          intro t
          induction t with
          | zero =>
            intro q w hq hw7 hI hq0
            refine r_iload X d_Model_valueAt_73 (by rfl) ?_
            refine r_aload_n X d_Model_valueAt_75 (by rfl) ?_
            refine r_get X lf_Model_13 d_Model_valueAt_76 (by assumption) (by rfl) ?_
            refine r_bipush X (x := (nI 8)) d_Model_valueAt_79 (by decide) ?_
            refine r_iload_n X d_Model_valueAt_81 (by rfl) ?_
            first | refine r_imulN X d_Model_valueAt_82 ?_ | refine r_imul X d_Model_valueAt_82 ?_
            refine r_iload X d_Model_valueAt_83 (by rfl) ?_
            first | refine r_iaddN X d_Model_valueAt_85 ?_ | refine r_iadd X d_Model_valueAt_85 ?_
            refine r_iald X d_Model_valueAt_86 (by assumption) (by omega) (by omega) ?_
            rw [rk.2.1 b (by omega)]
            refine r_icmp_geN X d_Model_valueAt_87 (tgt := 118) (by decide) (by omega) (by omega) (fun hc => ?_) (fun hc => ?_)
            · refine r_iincN X 1 d_Model_valueAt_118 (by rfl) (by decide) (by decide) ?_
              refine r_goto X d_Model_valueAt_121 (tgt := 63) (by decide) ?_
              have hq' : q = (V k).2.1 b := by omega
              rw [hq'] at hI hq0
              refine ih (b + 1) w _ (by omega) hw7 ?_ ?_ ?_
              · rw [blw_fi _ _ _ (by omega)]; exact hI
              · rw [blw_fi _ _ _ (by omega)]
                refine fp_mul_ne hne ?_
                rcases Nat.eq_zero_or_pos ((V k).2.1 b) with h0 | h0
                · rw [h0, px_0]
                  exact fi_ne (a := 1) (by omega) (by omega)
                · exact pow_ne (em_ne hp (by omega) (hq0 h0)) _
              · intro i hi h0
                by_cases e : i = b
                · subst e; exact hq0 h0
                · exact hno i (by omega) h0
            · omega
          | succ t iht =>
            intro q w hq hw7 hI hq0
            refine r_iload X d_Model_valueAt_73 (by rfl) ?_
            refine r_aload_n X d_Model_valueAt_75 (by rfl) ?_
            refine r_get X lf_Model_13 d_Model_valueAt_76 (by assumption) (by rfl) ?_
            refine r_bipush X (x := (nI 8)) d_Model_valueAt_79 (by decide) ?_
            refine r_iload_n X d_Model_valueAt_81 (by rfl) ?_
            first | refine r_imulN X d_Model_valueAt_82 ?_ | refine r_imul X d_Model_valueAt_82 ?_
            refine r_iload X d_Model_valueAt_83 (by rfl) ?_
            first | refine r_iaddN X d_Model_valueAt_85 ?_ | refine r_iadd X d_Model_valueAt_85 ?_
            refine r_iald X d_Model_valueAt_86 (by assumption) (by omega) (by omega) ?_
            rw [rk.2.1 b (by omega)]
            refine r_icmp_geN X d_Model_valueAt_87 (tgt := 118) (by decide) (by omega) (by omega) (fun hc => ?_) (fun hc => ?_)
            · omega
            · refine r_iload_n X d_Model_valueAt_90 (by rfl) ?_
              refine r_iload X d_Model_valueAt_91 (by rfl) ?_
              first | refine r_iaddN X d_Model_valueAt_93 ?_ | refine r_iadd X d_Model_valueAt_93 ?_
              refine r_if_ne X d_Model_valueAt_94 (tgt := 100) (by decide) (fun g => ?_) (fun g => ?_)
              · have hnz := em_ne hp (by omega) g
                refine r_iload_n X d_Model_valueAt_100 (by rfl) ?_
                refine r_iload_n X d_Model_valueAt_101 (by rfl) ?_
                refine r_iload X d_Model_valueAt_102 (by rfl) ?_
                first | refine r_iaddN X d_Model_valueAt_104 ?_ | refine r_iadd X d_Model_valueAt_104 ?_
                refine r_cSi X ls_Model_45 m_mod (by decide) rfl (Nat.le_of_ble_eq_true rfl) d_Model_valueAt_105 rfl (fun S2 r h2 => ?_)
                obtain ⟨hxs, rfl⟩ := h2
                replace hxs := hxs.symm
                subst hxs
                refine r_cSi X ls_Model_109 (m_quotient hw7 hem) (by decide) rfl (Nat.le_of_ble_eq_true rfl) d_Model_valueAt_108 rfl (fun S2 r h2 => ?_)
                obtain ⟨hxs, rfl⟩ := h2
                replace hxs := hxs.symm
                subst hxs
                refine r_istore_n X d_Model_valueAt_111 (by decide) ?_
                refine r_iincN X 1 d_Model_valueAt_112 (by rfl) (by decide) (by decide) ?_
                refine r_goto X d_Model_valueAt_115 (tgt := 73) (by decide) ?_
                refine iht (q + 1) _ (by omega) (Nat.mod_lt _ (by decide)) ?_ (fun _ => g)
                rw [fi_mod, fi_mul, iv_fi, px_s, ← hI]
                have hiv := mul_inv hnz
                grobner
              · refine r_bipush X (x := (-6)) d_Model_valueAt_97 (by decide) ?_
                exact hR _ _ _ _ d_Model_valueAt_99 rfl ⟨_, rfl, ⟨hV1, hg1⟩, hx1, Or.inl ⟨⟨b, by omega, by omega, g⟩, rfl⟩⟩
        refine r_iload X d_Model_valueAt_63 (by rfl) ?_
        refine r_bipush X (x := (nI 8)) d_Model_valueAt_65 (by decide) ?_
        refine r_icmp_geN X d_Model_valueAt_67 (tgt := 124) (by decide) (by omega) (by omega) (fun hc => ?_) (fun hc => ?_)
        · omega
        · refine r_iconst X (x := (nI 0)) d_Model_valueAt_70 (by decide) ?_
          refine r_istore X d_Model_valueAt_71 (by decide) ?_
          refine inner ((V k).2.1 b) 0 w (by omega) hw7 ?_ (fun h => absurd h (by omega))
          rw [px_0, ← hI]
          grobner
    have tail : ∀ o5 o6, J S1 51 [some (.ref m), some (.int (nI k)), some (.int x), some (.int (nI (hn (V k).1 (em x) 32 0))), some (.int (nI bs)), o5, o6] [.int (nI x.toInt.natAbs), .int (nI bs), .int (nI (hn (V k).1 (em x) 32 0))] := by
      intro o5 o6
      refine r_cSi X ls_Model_37 (m_raise (b := bs) (n := x.toInt.natAbs) hb7 (by omega)) (by decide) rfl (Nat.le_of_ble_eq_true rfl) d_Model_valueAt_51 rfl (fun S2 r h2 => ?_)
      obtain ⟨hxs, rfl⟩ := h2
      replace hxs := hxs.symm
      subst hxs
      have hml := mul_bd hh7 (pwl bs x.toInt.natAbs)
      first | refine r_imulN X d_Model_valueAt_54 ?_ | refine r_imul X d_Model_valueAt_54 ?_
      refine r_sipush X (x := (nI 10007)) d_Model_valueAt_55 (by decide) ?_
      refine r_iremN X d_Model_valueAt_58 (by decide) (by decide) (by omega) ?_
      refine r_istore_n X d_Model_valueAt_59 (by decide) ?_
      refine r_iconst X (x := (nI 0)) d_Model_valueAt_60 (by decide) ?_
      refine r_istore X d_Model_valueAt_61 (by decide) ?_
      refine loop 8 0 _ _ (by omega) (Nat.mod_lt _ (by decide)) ?_ ?_ (fun i hi => absurd hi (by omega))
      · show _ * fi 1 = _
        rw [fi_1]
        grobner
      · exact fi_ne (a := 1) (by omega) (by omega)
    refine r_istore X d_Model_valueAt_36 (by decide) ?_
    refine r_iload_n X d_Model_valueAt_38 (by rfl) ?_
    refine r_iload X d_Model_valueAt_39 (by rfl) ?_
    refine r_iload_n X d_Model_valueAt_41 (by rfl) ?_
    refine r_if_ge X d_Model_valueAt_42 (tgt := 50) (by decide) (fun hc => ?_) (fun hc => ?_)
    · refine r_iload_n X d_Model_valueAt_50 (by rfl) ?_
      exact r_int (abs_p hc) (tail _ _)
    · refine r_iload_n X d_Model_valueAt_45 (by rfl) ?_
      refine r_ineg X d_Model_valueAt_46 ?_
      refine r_goto X d_Model_valueAt_47 (tgt := 51) (by decide) ?_
      exact r_int (abs_n (by omega) hc) (tail _ _)
  refine r_istore_n X d_Model_valueAt_12 (by decide) ?_
  refine r_iload_n X d_Model_valueAt_13 (by rfl) ?_
  refine r_if_ge X d_Model_valueAt_14 (tgt := 30) (by decide) (fun hc => ?_) (fun hc => ?_)
  · refine r_aload_n X d_Model_valueAt_30 (by rfl) ?_
    refine r_get X lf_Model_16 d_Model_valueAt_31 (by assumption) (by rfl) ?_
    refine r_iload_n X d_Model_valueAt_34 (by rfl) ?_
    refine r_iald X d_Model_valueAt_35 (by assumption) (by omega) (by omega) ?_
    rw [rk.2.2]
    refine main _ _ _ _ ?_
    rw [if_neg (fun h => by rw [Int32.lt_iff_toInt_lt] at h; rw [Int32.le_iff_toInt_le] at hc; omega)]
  · refine r_iconst X (x := (nI 1)) d_Model_valueAt_17 (by decide) ?_
    refine r_aload_n X d_Model_valueAt_18 (by rfl) ?_
    refine r_get X lf_Model_16 d_Model_valueAt_19 (by assumption) (by rfl) ?_
    refine r_iload_n X d_Model_valueAt_22 (by rfl) ?_
    refine r_iald X d_Model_valueAt_23 (by assumption) (by omega) (by omega) ?_
    rw [rk.2.2]
    refine r_cSi X ls_Model_109 (m_quotient (x := 1) (y := (V k).2.2) (by omega) hz7) (by decide) rfl (Nat.le_of_ble_eq_true rfl) d_Model_valueAt_24 rfl (fun S2 r h2 => ?_)
    obtain ⟨hxs, rfl⟩ := h2
    replace hxs := hxs.symm
    subst hxs
    refine r_goto X d_Model_valueAt_27 (tgt := 36) (by decide) ?_
    refine main _ _ _ _ ?_
    rw [if_pos (by rw [Int32.lt_iff_toInt_lt]; rw [Int32.le_iff_toInt_le] at hc; omega), Nat.one_mul, Nat.mod_eq_of_lt (iv_lt _)]
set_option maxHeartbeats 8000000 in
set_option maxRecDepth 100000 in
theorem m_value {m : Nat} {s x : Int32} {V : Vt} (hm : isM G m) (hV : MI S m V) (hw : wfV V) : CT (mkE l D cI cT) G y_Model_value b_Model_value 3 (some .int) 6 [.ref m, .int s, .int x] S (Pi (fun S' r => O_val V s x r ∧ MI S' m V ∧ exM m S S')) := by
  have hM := hm.1
  refine mk_i (by decide) (eok l D cI cT) (by simp [Value.category]) (Nat.le_of_ble_eq_true rfl) (fun J X hR => ?_)
  show J S 0 [some (.ref m), some (.int s), some (.int x)] []
  have hbad : ¬ (sl s ∧ plc x) → J S 14 [some (.ref m), some (.int s), some (.int x)] [] := by
    intro h
    refine r_bipush X (x := (-9)) d_Model_value_14 (by decide) ?_
    exact hR _ _ _ _ d_Model_value_16 rfl ⟨_, rfl, Or.inl ⟨h, rfl⟩, hV, Ex.rf _ _⟩
  refine r_iload_n X d_Model_value_0 (by rfl) ?_
  refine r_cSi X ls_Model_77 m_slot (by decide) rfl (Nat.le_of_ble_eq_true rfl) d_Model_value_1 rfl (fun Sx rx hx => ?_)
  obtain ⟨hxs, hx⟩ := hx
  replace hxs := hxs.symm
  subst hxs
  rcases hx with ⟨rfl, g1⟩ | ⟨rfl, g1⟩
  rotate_left
  · refine r_if_eqN X d_Model_value_4 (tgt := 14) (by decide) (by omega) (fun _ => ?_) (fun hc => absurd rfl hc)
    exact hbad (fun h => g1 h.1)
  refine r_if_eqN X d_Model_value_4 (tgt := 14) (by decide) (by omega) (fun hc => absurd hc (by decide)) (fun _ => ?_)
  refine r_iload_n X d_Model_value_7 (by rfl) ?_
  refine r_cSi X ls_Model_127 m_place (by decide) rfl (Nat.le_of_ble_eq_true rfl) d_Model_value_8 rfl (fun Sx rx hx => ?_)
  obtain ⟨hxs, hx⟩ := hx
  replace hxs := hxs.symm
  subst hxs
  rcases hx with ⟨rfl, g2⟩ | ⟨rfl, g2⟩
  rotate_left
  · refine r_if_neN X d_Model_value_11 (tgt := 17) (by decide) (by omega) (fun hc => absurd rfl hc) (fun _ => ?_)
    exact hbad (fun h => g2 h.2)
  refine r_if_neN X d_Model_value_11 (tgt := 17) (by decide) (by omega) (fun _ => ?_) (fun hc => absurd hc (by decide))
  obtain ⟨k, hk, rfl⟩ := g1
  refine r_aload_n X d_Model_value_17 (by rfl) ?_
  refine r_iload_n X d_Model_value_18 (by rfl) ?_
  refine r_iload_n X d_Model_value_19 (by rfl) ?_
  refine r_cVi X lv_Model_130 (m_valueAt hm hk g2 hV hw) (by assumption) (by decide) rfl (Nat.le_of_ble_eq_true rfl) d_Model_value_20 rfl (fun S2 r h2 => ?_)
  obtain ⟨hV2, hx2, h2⟩ := h2
  exact hR _ _ _ _ d_Model_value_23 rfl ⟨_, rfl, Or.inr ⟨k, hk, rfl, g2, h2⟩, hV2, hx2⟩
set_option maxHeartbeats 8000000 in
set_option maxRecDepth 100000 in
theorem m_sum {m : Nat} {s u v : Int32} {V : Vt} (hm : isM G m) (hV : MI S m V) (hw : wfV V) : CT (mkE l D cI cT) G y_Model_sum b_Model_sum 7 (some .int) 6 [.ref m, .int s, .int u, .int v] S (Pi (fun S' r => O_sum V s u v r ∧ MI S' m V ∧ exM m S S')) := by
  have hM := hm.1
  refine mk_i (by decide) (eok l D cI cT) (by simp [Value.category]) (Nat.le_of_ble_eq_true rfl) (fun J X hR => ?_)
  show J S 0 [some (.ref m), some (.int s), some (.int u), some (.int v), none, none, none] []
  have hbad : ¬ (sl s ∧ plc u ∧ plc v) → J S 21 [some (.ref m), some (.int s), some (.int u), some (.int v), none, none, none] [] := by
    intro h
    refine r_bipush X (x := (-9)) d_Model_sum_21 (by decide) ?_
    exact hR _ _ _ _ d_Model_sum_23 rfl ⟨_, rfl, Or.inl ⟨h, rfl⟩, hV, Ex.rf _ _⟩
  refine r_iload_n X d_Model_sum_0 (by rfl) ?_
  refine r_cSi X ls_Model_77 m_slot (by decide) rfl (Nat.le_of_ble_eq_true rfl) d_Model_sum_1 rfl (fun Sx rx hx => ?_)
  obtain ⟨hxs, hx⟩ := hx
  replace hxs := hxs.symm
  subst hxs
  rcases hx with ⟨rfl, g1⟩ | ⟨rfl, g1⟩
  rotate_left
  · refine r_if_eqN X d_Model_sum_4 (tgt := 21) (by decide) (by omega) (fun _ => ?_) (fun hc => absurd rfl hc)
    exact hbad (fun h => g1 h.1)
  refine r_if_eqN X d_Model_sum_4 (tgt := 21) (by decide) (by omega) (fun hc => absurd hc (by decide)) (fun _ => ?_)
  refine r_iload_n X d_Model_sum_7 (by rfl) ?_
  refine r_cSi X ls_Model_127 m_place (by decide) rfl (Nat.le_of_ble_eq_true rfl) d_Model_sum_8 rfl (fun Sx rx hx => ?_)
  obtain ⟨hxs, hx⟩ := hx
  replace hxs := hxs.symm
  subst hxs
  rcases hx with ⟨rfl, g2⟩ | ⟨rfl, g2⟩
  rotate_left
  · refine r_if_eqN X d_Model_sum_11 (tgt := 21) (by decide) (by omega) (fun _ => ?_) (fun hc => absurd rfl hc)
    exact hbad (fun h => g2 h.2.1)
  refine r_if_eqN X d_Model_sum_11 (tgt := 21) (by decide) (by omega) (fun hc => absurd hc (by decide)) (fun _ => ?_)
  refine r_iload_n X d_Model_sum_14 (by rfl) ?_
  refine r_cSi X ls_Model_127 m_place (by decide) rfl (Nat.le_of_ble_eq_true rfl) d_Model_sum_15 rfl (fun Sx rx hx => ?_)
  obtain ⟨hxs, hx⟩ := hx
  replace hxs := hxs.symm
  subst hxs
  rcases hx with ⟨rfl, g3⟩ | ⟨rfl, g3⟩
  rotate_left
  · refine r_if_neN X d_Model_sum_18 (tgt := 24) (by decide) (by omega) (fun hc => absurd rfl hc) (fun _ => ?_)
    exact hbad (fun h => g3 h.2.2)
  refine r_if_neN X d_Model_sum_18 (tgt := 24) (by decide) (by omega) (fun _ => ?_) (fun hc => absurd hc (by decide))
  obtain ⟨k, hk, rfl⟩ := g1
  have p2 := g2
  have p3 := g3
  obtain ⟨q1, q2⟩ := g2
  obtain ⟨q3, q4⟩ := g3
  have loop : ∀ n j S1 o6, j + n = spn u v → MI S1 m V → exM m S S1 → (∀ i, i < j → ¬ undf (V k).2.1 (u + nI i)) → J S1 30 [some (.ref m), some (.int (nI k)), some (.int u), some (.int v), some (.int (nI (tsm (V k) u j))), some (.int (u + nI j)), o6] [] := by
    intro n
    induction n with
    | zero =>
      intro j S1 o6 hj hV1 hx1 hno
      have hsp : spn u v = (v.toInt - u.toInt + 1).toNat := rfl
      have ea := add_toInt (u := u) (j := j) (by omega) (by omega) (by omega)
      refine r_iload X d_Model_sum_30 (by rfl) ?_
      refine r_iload_n X d_Model_sum_32 (by rfl) ?_
      refine r_icmp_gt X d_Model_sum_33 (tgt := 70) (by decide) (fun hc => ?_) (fun hc => ?_)
      · refine r_iload X d_Model_sum_70 (by rfl) ?_
        refine hR _ _ _ _ d_Model_sum_72 rfl ⟨_, rfl, Or.inr ⟨k, hk, rfl, p2, p3, Or.inr ⟨fun ⟨i, hi, h⟩ => hno i (by omega) h, ?_⟩⟩, hV1, hx1⟩
        rw [show spn u v = j by omega]
      · rw [Int32.lt_iff_toInt_lt, ea] at hc
        omega
    | succ n ih =>
      intro j S1 o6 hj hV1 hx1 hno
      have hsp : spn u v = (v.toInt - u.toInt + 1).toNat := rfl
      have ea := add_toInt (u := u) (j := j) (by omega) (by omega) (by omega)
      have ht := tsm_lt (V k) u j
      have htv := tv_lt (V k) (u + nI j)
      have hpl : plc (u + nI j) := ⟨by rw [ea]; omega, by rw [ea]; omega⟩
      refine r_iload X d_Model_sum_30 (by rfl) ?_
      refine r_iload_n X d_Model_sum_32 (by rfl) ?_
      refine r_icmp_gt X d_Model_sum_33 (tgt := 70) (by decide) (fun hc => ?_) (fun hc => ?_)
      · rw [Int32.lt_iff_toInt_lt, ea] at hc
        omega
      · refine r_aload_n X d_Model_sum_36 (by rfl) ?_
        refine r_iload_n X d_Model_sum_37 (by rfl) ?_
        refine r_iload X d_Model_sum_38 (by rfl) ?_
        refine r_cVi X lv_Model_130 (m_valueAt hm hk hpl hV1 hw) (by assumption) (by decide) rfl (Nat.le_of_ble_eq_true rfl) d_Model_sum_40 rfl (fun S2 r h2 => ?_)
        obtain ⟨hV2, hx2, ⟨h2, rfl⟩ | ⟨h2, rfl⟩⟩ := h2
        · refine r_istore X d_Model_sum_43 (by decide) ?_
          refine r_iload X d_Model_sum_45 (by rfl) ?_
          refine r_if_ge X d_Model_sum_47 (tgt := 53) (by decide) (fun g => absurd g (by decide)) (fun g => ?_)
          refine r_bipush X (x := (-6)) d_Model_sum_50 (by decide) ?_
          exact hR _ _ _ _ d_Model_sum_52 rfl ⟨_, rfl, Or.inr ⟨k, hk, rfl, p2, p3, Or.inl ⟨⟨j, by omega, h2⟩, rfl⟩⟩, hV2, hx1.trans hx2⟩
        · refine r_istore X d_Model_sum_43 (by decide) ?_
          refine r_iload X d_Model_sum_45 (by rfl) ?_
          refine r_if_ge X d_Model_sum_47 (tgt := 53) (by decide) (fun g => ?_) (fun g => absurd (by rw [Int32.le_iff_toInt_le, Int32.toInt_zero, nI_toInt (by omega)]; omega) g)
          refine r_iload X d_Model_sum_53 (by rfl) ?_
          refine r_iload X d_Model_sum_55 (by rfl) ?_
          first | refine r_iaddN X d_Model_sum_57 ?_ | refine r_iadd X d_Model_sum_57 ?_
          refine r_sipush X (x := (nI 10007)) d_Model_sum_58 (by decide) ?_
          refine r_iremN X d_Model_sum_61 (by decide) (by decide) (by omega) ?_
          refine r_istore X d_Model_sum_62 (by decide) ?_
          refine r_iinc X d_Model_sum_64 (by rfl) (y := u + nI (j + 1)) ?_ (by decide) ?_
          · rw [Int32.add_assoc, show Int32.ofInt 1 = nI 1 by decide, nI_add]
          · refine r_goto X d_Model_sum_67 (tgt := 30) (by decide) ?_
            refine ih (j + 1) S2 _ (by omega) hV2 (hx1.trans hx2) (fun i hi => ?_)
            by_cases h : i = j
            · rw [h]; exact h2
            · exact hno i (by omega)
  refine r_iconst X (x := (nI 0)) d_Model_sum_24 (by decide) ?_
  refine r_istore X d_Model_sum_25 (by decide) ?_
  refine r_iload_n X d_Model_sum_27 (by rfl) ?_
  refine r_istore X d_Model_sum_28 (by decide) ?_
  refine r_forget X (L' := [some (.ref m), some (.int (nI k)), some (.int u), some (.int v), some (.int (nI (tsm (V k) u 0))), some (.int (u + nI 0)), none]) ?_ (loop (spn u v) 0 S _ (by omega) hV (Ex.rf _ _) (fun i hi => by omega))
  intro i w hw
  rw [show u + nI 0 = u by rw [nI_0, Int32.add_zero]] at hw
  exact hw
end M9
