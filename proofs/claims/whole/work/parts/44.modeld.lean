section ME
variable {l : Launch} {D : va_G} {cI cT : ClassId} {G : Gm} {S : Sg}
abbrev exT (m : Nat) : Sg → Sg → Prop := Ex (fun a => a = m ∨ a = m + 4 ∨ a = m + 5 ∨ a = m + 7 ∨ a = m + 8 ∨ a = m + 9)
set_option maxHeartbeats 8000000 in
set_option maxRecDepth 100000 in
theorem m_total {m z : Nat} {W u P Xw : Nat → Nat} (hm : isM G m) (hz : z < 10007) (hg : okG (S.1 (m + 4))) (hW : rowf (S.1 (m + 4)) 240 = W) (h6 : S.1 (m + 6) = u) (hu : ∀ i, u i < 10007) (hP7 : ∀ i, P i < 10007) (hP : ∀ b k, b < 8 → 1 ≤ k → k ≤ 3 → rot u (iv z) k b (7 - b) = P (b * 3 + k - 1)) (hX : hnw (svl z W) 33 0 = Xw) (hX33 : okP 33 Xw) : CT (mkE l D cI cT) G y_Model_total b_Model_total 5 none 3 [.ref m, .int (nI z)] S (Pv (fun S' => rowf (S'.1 (m + 4)) 0 = gth P Xw ∧ okG (S'.1 (m + 4)) ∧ S'.1 (m + 5) = gE P ∧ S'.2 m = nI z ∧ exT m S S')) := by
  have hm0 := hm
  obtain ⟨hM, hco, hex, hra, hpo, hbe, hwe, hro, hle, hva⟩ := hm
  obtain ⟨back, hbF, hb7⟩ : ∃ back, (fun _ : Unit => iv z) = (fun _ => back) ∧ back < 10007 := ⟨_, rfl, iv_lt z⟩
  rw [show iv z = back from congrFun hbF ()] at hP
  have hg3 := gE_3 P
  have hgw := wd_wn (d := gE P) hg3 hX33
  have hgok : ∀ b, b ≤ 8 → okP 80 (wd 80 (gE P) b Xw) := fun b hb => by
    rw [(hgw b (by omega)).1]
    exact (hgw b (by omega)).2.mono (by omega)
  have hgb : ∀ b, okP 64 (gb P (gE P) b (wd 64 (gE P) 8 Xw)) := fun b => gb_ok ((hgw 8 (by omega)).2.mono (by omega)) b
  refine mk_v (by decide) (eok l D cI cT) (by simp [Value.category]) (Nat.le_of_ble_eq_true rfl) (fun J X hR => ?_)
  show J S 0 [some (.ref m), some (.int (nI z)), none, none, none] []
  have loopC : ∀ n b S3 o4, b + n = 8 → rowf (S3.1 (m + 4)) 0 = gb P (gE P) b (wd 64 (gE P) 8 Xw) → okG (S3.1 (m + 4)) → S3.1 (m + 8) = gE P → S3.1 (m + 7) = P → S3.1 (m + 5) = gE P → S3.2 m = nI z → exT m S S3 → J S3 146 [some (.ref m), some (.int (nI z)), some (.int (nI back)), some (.int (nI b)), o4] [] := by
    intro n
    induction n with
    | zero =>
      intro b S3 o4 hb k4 kg k8 k7 k5 kz kx
      have hb8 : b = 8 := by omega
      subst hb8
      refine r_iload_n X d_Model_total_146 (by rfl) ?_
      refine r_bipush X (x := (nI 8)) d_Model_total_147 (by decide) ?_
      refine r_icmp_geN X d_Model_total_149 (tgt := 206) (by decide) (by omega) (by omega) (fun hc => ?_) (fun hc => ?_)
      · exact hR _ _ _ d_Model_total_206 ⟨rfl, k4, kg, k5, kz, kx⟩
      · omega
    | succ n ih =>
      intro b S3 o4 hb k4 kg k8 k7 k5 kz kx
      have hgb3 := hg3 b
      have inner : ∀ t k S4, k + t = gE P b → rowf (S4.1 (m + 4)) 0 = gk P (gE P) b k (gb P (gE P) b (wd 64 (gE P) 8 Xw)) → okG (S4.1 (m + 4)) → S4.1 (m + 8) = gE P → S4.1 (m + 7) = P → S4.1 (m + 5) = gE P → S4.2 m = nI z → exT m S S4 → J S4 155 [some (.ref m), some (.int (nI z)), some (.int (nI back)), some (.int (nI b)), some (.int (nI (k + 1)))] [] := by
        intro t
        induction t with
        | zero =>
          intro k S4 hk j4 jg j8 j7 j5 jz jx
          refine r_iload X d_Model_total_155 (by rfl) ?_
          refine r_aload_n X d_Model_total_157 (by rfl) ?_
          refine r_get X lf_Model_31 d_Model_total_158 (by assumption) (by rfl) ?_
          refine r_iload_n X d_Model_total_161 (by rfl) ?_
          refine r_iald X d_Model_total_162 (by assumption) (by omega) (by omega) ?_
          rw [j8]
          refine r_icmp_gtN X d_Model_total_163 (tgt := 200) (by decide) (by omega) (by omega) (fun hc => ?_) (fun hc => ?_)
          · refine r_iincN X 1 d_Model_total_200 (by rfl) (by decide) (by decide) ?_
            refine r_goto X d_Model_total_203 (tgt := 146) (by decide) ?_
            refine ih (b + 1) S4 _ (by omega) ?_ jg j8 j7 j5 jz jx
            rw [j4, show k = gE P b by omega]
            rfl
          · omega
        | succ t iht =>
          intro k S4 hk j4 jg j8 j7 j5 jz jx
          have hdl : ∀ i, va_up (gE P) b (gE P b - (k + 1)) i ≤ 3 := up_le3 hg3 (by omega)
          have hp7 := hP7 (b * 3 + (k + 1) - 1)
          have ix : 3 * b + (k + 1) - 1 = b * 3 + (k + 1) - 1 := by omega
          refine r_iload X d_Model_total_155 (by rfl) ?_
          refine r_aload_n X d_Model_total_157 (by rfl) ?_
          refine r_get X lf_Model_31 d_Model_total_158 (by assumption) (by rfl) ?_
          refine r_iload_n X d_Model_total_161 (by rfl) ?_
          refine r_iald X d_Model_total_162 (by assumption) (by omega) (by omega) ?_
          rw [j8]
          refine r_icmp_gtN X d_Model_total_163 (tgt := 200) (by decide) (by omega) (by omega) (fun hc => ?_) (fun hc => ?_)
          · omega
          · refine r_aload_n X d_Model_total_166 (by rfl) ?_
            refine r_iload_n X d_Model_total_167 (by rfl) ?_
            refine r_iload X d_Model_total_168 (by rfl) ?_
            refine r_cVv X lv_Model_106 (m_others (b := b) (e := k + 1) (L := gE P) hm0 (by omega) (fun i => Nat.lt_of_le_of_lt (hg3 i) (by decide)) (by omega) j8 jg) (by assumption) (by decide) rfl (Nat.le_of_ble_eq_true rfl) d_Model_total_170 rfl (fun S5 h5 => ?_)
            obtain ⟨A, hA, hAok⟩ : ∃ A, A = wd 80 (va_up (gE P) b (gE P b - (k + 1))) 8 (lin 0 1) ∧ okP 80 A := ⟨_, rfl, wd_ok (lin_ok (by decide) (by decide) (by decide)) 8⟩
            rw [← hA] at h5
            have ho5 : Out S4 S5 (m + 4) 1 := by rw [h5]; exact Out.ar (by omega) (by omega)
            have f5 : S5.1 (m + 4) = rst (S4.1 (m + 4)) 160 A := by rw [h5, arS_1]
            have g5 : okG (S5.1 (m + 4)) := by rw [f5]; exact jg.rst 160 hAok
            have p5 : rowf (S5.1 (m + 4)) 160 = A := by rw [f5]; exact rowf_rst hAok
            have w5 : rowf (S5.1 (m + 4)) 0 = gk P (gE P) b k (gb P (gE P) b (wd 64 (gE P) 8 Xw)) := by rw [f5, rowf_ne (by omega)]; exact j4
            have r5 : S5.1 (m + 7) = P := by rw [ho5.a1 (by omega)]; exact j7
            refine r_aload_n X d_Model_total_173 (by rfl) ?_
            refine r_iconst X (x := (nI 0)) d_Model_total_174 (by decide) ?_
            refine r_sipush X (x := (nI 160)) d_Model_total_175 (by decide) ?_
            refine r_aload_n X d_Model_total_178 (by rfl) ?_
            refine r_get X lf_Model_28 d_Model_total_179 (by assumption) (by rfl) ?_
            refine r_iconst X (x := (nI 3)) d_Model_total_182 (by decide) ?_
            refine r_iload_n X d_Model_total_183 (by rfl) ?_
            first | refine r_imulN X d_Model_total_184 ?_ | refine r_imul X d_Model_total_184 ?_
            refine r_iload X d_Model_total_185 (by rfl) ?_
            first | refine r_iaddN X d_Model_total_187 ?_ | refine r_iadd X d_Model_total_187 ?_
            refine r_iconst X (x := (nI 1)) d_Model_total_188 (by decide) ?_
            first | refine r_isubN X d_Model_total_189 (by omega) ?_ | refine r_isub X d_Model_total_189 ?_
            refine r_iald X d_Model_total_190 (by assumption) (by omega) (by omega) ?_
            rw [r5, ix]
            refine r_cVv X lv_Model_97 (m_addRow (p := 0) (q := 160) (c := P (b * 3 + (k + 1) - 1)) hm0 (by omega) (by omega) (by omega) g5 (by omega)) (by assumption) (by decide) rfl (Nat.le_of_ble_eq_true rfl) d_Model_total_191 rfl (fun S6 h6' => ?_)
            rw [w5, p5, hA, gat_eq (gk_ok (hgb b) k) hdl hp7] at h6'
            have hR6 : okP 64 (gk P (gE P) b (k + 1) (gb P (gE P) b (wd 64 (gE P) 8 Xw))) := gk_ok (hgb b) (k + 1)
            have h6' : S6 = arS S5 (m + 4) (rst (S5.1 (m + 4)) 0 (gk P (gE P) b (k + 1) (gb P (gE P) b (wd 64 (gE P) 8 Xw)))) := h6'
            have ho6 : Out S5 S6 (m + 4) 1 := by rw [h6']; exact Out.ar (by omega) (by omega)
            have f6 : S6.1 (m + 4) = rst (S5.1 (m + 4)) 0 (gk P (gE P) b (k + 1) (gb P (gE P) b (wd 64 (gE P) 8 Xw))) := by rw [h6', arS_1]
            refine r_iincN X 1 d_Model_total_194 (by rfl) (by decide) (by decide) ?_
            refine r_goto X d_Model_total_197 (tgt := 155) (by decide) ?_
            refine iht (k + 1) S6 (by omega) ?_ ?_ ?_ ?_ ?_ ?_ ?_
            · rw [f6]; exact rowf_rst (hR6.mono (by omega))
            · rw [f6]; exact g5.rst 0 (hR6.mono (by omega))
            · rw [ho6.a1 (by omega), ho5.a1 (by omega)]; exact j8
            · rw [ho6.a1 (by omega), ho5.a1 (by omega)]; exact j7
            · rw [ho6.a1 (by omega), ho5.a1 (by omega)]; exact j5
            · rw [ho6.a2 (by omega), ho5.a2 (by omega)]; exact jz
            · exact (jx.trans (ho5.ex (fun a h1 h2 => by omega))).trans (ho6.ex (fun a h1 h2 => by omega))
      refine r_iload_n X d_Model_total_146 (by rfl) ?_
      refine r_bipush X (x := (nI 8)) d_Model_total_147 (by decide) ?_
      refine r_icmp_geN X d_Model_total_149 (tgt := 206) (by decide) (by omega) (by omega) (fun hc => ?_) (fun hc => ?_)
      · omega
      · refine r_iconst X (x := (nI 1)) d_Model_total_152 (by decide) ?_
        refine r_istore X d_Model_total_153 (by decide) ?_
        exact inner (gE P b) 0 S3 (by omega) k4 kg k8 k7 k5 kz kx
  have loopB : ∀ n b S3 o4, b + n = 8 → rowf (S3.1 (m + 4)) 0 = wd 80 (gE P) b Xw → okG (S3.1 (m + 4)) → S3.1 (m + 8) = gE P → S3.1 (m + 7) = P → S3.1 (m + 5) = (fun i => if i < b then gE P i else 0) → S3.2 m = nI z → exT m S S3 → J S3 108 [some (.ref m), some (.int (nI z)), some (.int (nI back)), some (.int (nI b)), o4] [] := by
    intro n
    induction n with
    | zero =>
      intro b S3 o4 hb k4 kg k8 k7 k5 kz kx
      have hb8 : b = 8 := by omega
      subst hb8
      refine r_iload_n X d_Model_total_108 (by rfl) ?_
      refine r_bipush X (x := (nI 8)) d_Model_total_109 (by decide) ?_
      refine r_icmp_geN X d_Model_total_111 (tgt := 144) (by decide) (by omega) (by omega) (fun hc => ?_) (fun hc => ?_)
      · refine r_iconst X (x := (nI 0)) d_Model_total_144 (by decide) ?_
        refine r_istore_n X d_Model_total_145 (by decide) ?_
        refine loopC 8 0 S3 _ (by omega) ?_ kg k8 k7 ?_ kz kx
        · rw [k4, (hgw 8 (by omega)).1]
          rfl
        · rw [k5]
          funext i
          by_cases h : i < 8
          · rw [if_pos h]
          · rw [if_neg h]
            unfold gE
            rw [if_neg h]
      · omega
    | succ n ih =>
      intro b S3 o4 hb k4 kg k8 k7 k5 kz kx
      have hgb3 := hg3 b
      refine r_iload_n X d_Model_total_108 (by rfl) ?_
      refine r_bipush X (x := (nI 8)) d_Model_total_109 (by decide) ?_
      refine r_icmp_geN X d_Model_total_111 (tgt := 144) (by decide) (by omega) (by omega) (fun hc => ?_) (fun hc => ?_)
      · omega
      · refine r_aload_n X d_Model_total_114 (by rfl) ?_
        refine r_iconst X (x := (nI 0)) d_Model_total_115 (by decide) ?_
        refine r_iload_n X d_Model_total_116 (by rfl) ?_
        refine r_aload_n X d_Model_total_117 (by rfl) ?_
        refine r_get X lf_Model_31 d_Model_total_118 (by assumption) (by rfl) ?_
        refine r_iload_n X d_Model_total_121 (by rfl) ?_
        refine r_iald X d_Model_total_122 (by assumption) (by omega) (by omega) ?_
        rw [k8]
        refine r_cVv X lv_Model_93 (m_times (p := 0) (x := nI b) (n := gE P b) hm0 (by omega) kg (by omega)) (by assumption) (by decide) rfl (Nat.le_of_ble_eq_true rfl) d_Model_total_123 rfl (fun S4 h4 => ?_)
        rw [k4, em_nI (by omega), Nat.mod_eq_of_lt (by omega)] at h4
        have hok := hgok (b + 1) (by omega)
        have h4 : S4 = arS S3 (m + 4) (rst (S3.1 (m + 4)) 0 (wd 80 (gE P) (b + 1) Xw)) := h4
        have ho4 : Out S3 S4 (m + 4) 1 := by rw [h4]; exact Out.ar (by omega) (by omega)
        have f4 : S4.1 (m + 4) = rst (S3.1 (m + 4)) 0 (wd 80 (gE P) (b + 1) Xw) := by rw [h4, arS_1]
        have e8 : S4.1 (m + 8) = gE P := by rw [ho4.a1 (by omega)]; exact k8
        have e5 : S4.1 (m + 5) = (fun i => if i < b then gE P i else 0) := by rw [ho4.a1 (by omega)]; exact k5
        refine r_aload_n X d_Model_total_126 (by rfl) ?_
        refine r_get X lf_Model_22 d_Model_total_127 (by assumption) (by rfl) ?_
        refine r_iload_n X d_Model_total_130 (by rfl) ?_
        refine r_aload_n X d_Model_total_131 (by rfl) ?_
        refine r_get X lf_Model_31 d_Model_total_132 (by assumption) (by rfl) ?_
        refine r_iload_n X d_Model_total_135 (by rfl) ?_
        refine r_iald X d_Model_total_136 (by assumption) (by omega) (by omega) ?_
        rw [e8]
        refine r_iast X d_Model_total_137 (by assumption) (by omega) (by omega) ?_
        refine r_iincN X 1 d_Model_total_138 (by rfl) (by decide) (by decide) ?_
        refine r_goto X d_Model_total_141 (tgt := 108) (by decide) ?_
        have ho5 : Out S4 (arS S4 (m + 5) (va_up (S4.1 (m + 5)) b (gE P b))) (m + 5) 1 := Out.ar (by omega) (by omega)
        have f5 : (arS S4 (m + 5) (va_up (S4.1 (m + 5)) b (gE P b))).1 (m + 5) = (fun i => if i < b + 1 then gE P i else 0) := by rw [arS_1, e5, up_lt (gE P) (fun _ => 0) b]
        revert ho5 f5
        generalize arS S4 (m + 5) (va_up (S4.1 (m + 5)) b (gE P b)) = S5
        intro ho5 f5
        have q5 : S5.1 (m + 4) = S4.1 (m + 4) := ho5.a1 (by omega)
        refine ih (b + 1) S5 _ (by omega) ?_ ?_ ?_ ?_ f5 ?_ ?_
        · rw [q5, f4]; exact rowf_rst hok
        · rw [q5, f4]; exact kg.rst 0 hok
        · rw [ho5.a1 (by omega)]; exact e8
        · rw [ho5.a1 (by omega), ho4.a1 (by omega)]; exact k7
        · rw [ho5.a2 (by omega), ho4.a2 (by omega)]; exact kz
        · exact (kx.trans (ho4.ex (fun a h1 h2 => by omega))).trans (ho5.ex (fun a h1 h2 => by omega))
  have loopA : ∀ n b S3 o4, b + n = 8 → S3.1 (m + 4) = rst (S.1 (m + 4)) 0 Xw → (∀ i, i < b → S3.1 (m + 8) i = gE P i) → (∀ i, i < 3 * b → S3.1 (m + 7) i = P i) → S3.1 (m + 6) = u → S3.1 (m + 5) = (fun _ => 0) → S3.2 m = nI z → exT m S S3 → J S3 18 [some (.ref m), some (.int (nI z)), some (.int (nI back)), some (.int (nI b)), o4] [] := by
    intro n
    induction n with
    | zero =>
      intro b S3 o4 hb k4 k8 k7 k6 k5 kz kx
      have hb8 : b = 8 := by omega
      subst hb8
      refine r_iload_n X d_Model_total_18 (by rfl) ?_
      refine r_bipush X (x := (nI 8)) d_Model_total_19 (by decide) ?_
      refine r_icmp_geN X d_Model_total_21 (tgt := 106) (by decide) (by omega) (by omega) (fun hc => ?_) (fun hc => ?_)
      · refine r_iconst X (x := (nI 0)) d_Model_total_106 (by decide) ?_
        refine r_istore_n X d_Model_total_107 (by decide) ?_
        refine r_trunc X (f := gE P) hle (fun j hj => (k8 j (by omega)).symm) ?_
        refine r_trunc X (f := P) hro (fun j hj => by rw [arS_1n (by omega)]; exact (k7 j (by omega)).symm) ?_
        refine loopB 8 0 _ _ (by omega) ?_ ?_ ?_ ?_ ?_ ?_ ?_
        · rw [arS_1n (by omega), arS_1n (by omega), k4]; exact rowf_rst (hX33.mono (by omega))
        · rw [arS_1n (by omega), arS_1n (by omega), k4]; exact hg.rst 0 (hX33.mono (by omega))
        · rw [arS_1n (by omega), arS_1]
        · rw [arS_1]
        · rw [arS_1n (by omega), arS_1n (by omega), k5]
          funext i
          rw [if_neg (by omega)]
        · rw [arS_2, arS_2]; exact kz
        · exact (kx.trans ((Out.ar (q := m + 8) (w := 1) (by omega) (by omega)).ex (fun a h1 h2 => by omega))).trans ((Out.ar (q := m + 7) (w := 1) (by omega) (by omega)).ex (fun a h1 h2 => by omega))
      · omega
    | succ n ih =>
      intro b S3 o4 hb k4 k8 k7 k6 k5 kz kx
      have inner : ∀ t k S4, k + t = 3 → S4.1 (m + 4) = rst (S.1 (m + 4)) 0 Xw → (∀ i, i < b → S4.1 (m + 8) i = gE P i) → S4.1 (m + 8) b = gEx P b k → (∀ i, i < 3 * b + k → S4.1 (m + 7) i = P i) → S4.1 (m + 6) = u → S4.1 (m + 5) = (fun _ => 0) → S4.2 m = nI z → exT m S S4 → J S4 34 [some (.ref m), some (.int (nI z)), some (.int (nI back)), some (.int (nI b)), some (.int (nI (k + 1)))] [] := by
        intro t
        induction t with
        | zero =>
          intro k S4 hk j4 j8 jb j7 j6 j5 jz jx
          have hk3 : k = 3 := by omega
          subst hk3
          refine r_iload X d_Model_total_34 (by rfl) ?_
          refine r_iconst X (x := (nI 3)) d_Model_total_36 (by decide) ?_
          refine r_icmp_gtN X d_Model_total_37 (tgt := 100) (by decide) (by omega) (by omega) (fun hc => ?_) (fun hc => ?_)
          · refine r_iincN X 1 d_Model_total_100 (by rfl) (by decide) (by decide) ?_
            refine r_goto X d_Model_total_103 (tgt := 18) (by decide) ?_
            refine ih (b + 1) S4 _ (by omega) j4 (fun i hi => ?_) (fun i hi => j7 i (by omega)) j6 j5 jz jx
            by_cases h : i = b
            · rw [h, jb]
              unfold gE
              rw [if_pos (by omega)]
            · exact j8 i (by omega)
          · omega
        | succ t iht =>
          intro k S4 hk j4 j8 jb j7 j6 j5 jz jx
          have hp7 := hP7 (b * 3 + (k + 1) - 1)
          have hgl := gEx_le P b k
          have hPk := hP b (k + 1) (by omega) (by omega) (by omega)
          have ix : 3 * b + (k + 1) - 1 = b * 3 + (k + 1) - 1 := by omega
          refine r_iload X d_Model_total_34 (by rfl) ?_
          refine r_iconst X (x := (nI 3)) d_Model_total_36 (by decide) ?_
          refine r_icmp_gtN X d_Model_total_37 (tgt := 100) (by decide) (by omega) (by omega) (fun hc => ?_) (fun hc => ?_)
          · omega
          · refine r_aload_n X d_Model_total_40 (by rfl) ?_
            refine r_get X lf_Model_28 d_Model_total_41 (by assumption) (by rfl) ?_
            refine r_iconst X (x := (nI 3)) d_Model_total_44 (by decide) ?_
            refine r_iload_n X d_Model_total_45 (by rfl) ?_
            first | refine r_imulN X d_Model_total_46 ?_ | refine r_imul X d_Model_total_46 ?_
            refine r_iload X d_Model_total_47 (by rfl) ?_
            first | refine r_iaddN X d_Model_total_49 ?_ | refine r_iadd X d_Model_total_49 ?_
            refine r_iconst X (x := (nI 1)) d_Model_total_50 (by decide) ?_
            first | refine r_isubN X d_Model_total_51 (by omega) ?_ | refine r_isub X d_Model_total_51 ?_
            refine r_aload_n X d_Model_total_52 (by rfl) ?_
            refine r_iload_n X d_Model_total_53 (by rfl) ?_
            refine r_iload X d_Model_total_54 (by rfl) ?_
            refine r_iload_n X d_Model_total_56 (by rfl) ?_
            refine r_cVi X lv_Model_118 (m_rootOf (b := b) (e := k + 1) (back := back) hm0 (by omega) (by omega) (by omega) hb7 hu j6) (by assumption) (by decide) rfl (Nat.le_of_ble_eq_true rfl) d_Model_total_57 rfl (fun S5 r h5 => ?_)
            obtain ⟨hxs, rfl⟩ := h5
            replace hxs := hxs.symm
            subst hxs
            rw [hPk, ix]
            clear hPk
            refine r_iast X d_Model_total_60 (by assumption) (by omega) (by omega) ?_
            have ho6 : Out S4 (arS S4 (m + 7) (va_up (S4.1 (m + 7)) (b * 3 + (k + 1) - 1) (P (b * 3 + (k + 1) - 1)))) (m + 7) 1 := Out.ar (by omega) (by omega)
            have f6 : (arS S4 (m + 7) (va_up (S4.1 (m + 7)) (b * 3 + (k + 1) - 1) (P (b * 3 + (k + 1) - 1)))).1 (m + 7) = va_up (S4.1 (m + 7)) (b * 3 + (k + 1) - 1) (P (b * 3 + (k + 1) - 1)) := arS_1 _ _ _
            revert ho6 f6
            generalize arS S4 (m + 7) (va_up (S4.1 (m + 7)) (b * 3 + (k + 1) - 1) (P (b * 3 + (k + 1) - 1))) = S6
            intro ho6 f6
            have q8 : S6.1 (m + 8) = S4.1 (m + 8) := ho6.a1 (by omega)
            have fin : ∀ v, v = gEx P b (k + 1) → J S6 93 [some (.ref m), some (.int (nI z)), some (.int (nI back)), some (.int (nI b)), some (.int (nI (k + 1)))] [.int (nI v), .int (nI b), .ref (m + 8)] := by
              intro v hv
              refine r_iast X d_Model_total_93 (by assumption) (by omega) (by omega) ?_
              refine r_iincN X 1 d_Model_total_94 (by rfl) (by decide) (by decide) ?_
              refine r_goto X d_Model_total_97 (tgt := 34) (by decide) ?_
              have ho7 : Out S6 (arS S6 (m + 8) (va_up (S6.1 (m + 8)) b v)) (m + 8) 1 := Out.ar (by omega) (by omega)
              have f7 : (arS S6 (m + 8) (va_up (S6.1 (m + 8)) b v)).1 (m + 8) = va_up (S6.1 (m + 8)) b v := arS_1 _ _ _
              revert ho7 f7
              generalize arS S6 (m + 8) (va_up (S6.1 (m + 8)) b v) = S7
              intro ho7 f7
              refine iht (k + 1) S7 (by omega) ?_ (fun i hi => ?_) ?_ (fun i hi => ?_) ?_ ?_ ?_ ?_
              · rw [ho7.a1 (by omega), ho6.a1 (by omega)]; exact j4
              · rw [f7, va_up_n (by omega), q8]; exact j8 i hi
              · rw [f7, va_up_s]; exact hv
              · rw [ho7.a1 (by omega), f6]
                by_cases h : i = b * 3 + (k + 1) - 1
                · rw [h, va_up_s]
                · rw [va_up_n h]; exact j7 i (by omega)
              · rw [ho7.a1 (by omega), ho6.a1 (by omega)]; exact j6
              · rw [ho7.a1 (by omega), ho6.a1 (by omega)]; exact j5
              · rw [ho7.a2 (by omega), ho6.a2 (by omega)]; exact jz
              · exact (jx.trans (ho6.ex (fun a h1 h2 => by omega))).trans (ho7.ex (fun a h1 h2 => by omega))
            refine r_aload_n X d_Model_total_61 (by rfl) ?_
            refine r_get X lf_Model_31 d_Model_total_62 (by assumption) (by rfl) ?_
            refine r_iload_n X d_Model_total_65 (by rfl) ?_
            refine r_aload_n X d_Model_total_66 (by rfl) ?_
            refine r_get X lf_Model_28 d_Model_total_67 (by assumption) (by rfl) ?_
            refine r_iconst X (x := (nI 3)) d_Model_total_70 (by decide) ?_
            refine r_iload_n X d_Model_total_71 (by rfl) ?_
            first | refine r_imulN X d_Model_total_72 ?_ | refine r_imul X d_Model_total_72 ?_
            refine r_iload X d_Model_total_73 (by rfl) ?_
            first | refine r_iaddN X d_Model_total_75 ?_ | refine r_iadd X d_Model_total_75 ?_
            refine r_iconst X (x := (nI 1)) d_Model_total_76 (by decide) ?_
            first | refine r_isubN X d_Model_total_77 (by omega) ?_ | refine r_isub X d_Model_total_77 ?_
            refine r_iald X d_Model_total_78 (by assumption) (by omega) (by omega) ?_
            rw [ix, f6, va_up_s]
            refine r_if_eqN X d_Model_total_79 (tgt := 87) (by decide) (by omega) (fun hc => ?_) (fun hc => ?_)
            · refine r_aload_n X d_Model_total_87 (by rfl) ?_
              refine r_get X lf_Model_31 d_Model_total_88 (by assumption) (by rfl) ?_
              refine r_iload_n X d_Model_total_91 (by rfl) ?_
              refine r_iald X d_Model_total_92 (by assumption) (by omega) (by omega) ?_
              rw [q8, jb]
              refine fin _ ?_
              show _ = if P (b * 3 + (k + 1) - 1) ≠ 0 then k + 1 else gEx P b k
              rw [if_neg (fun h => h hc)]
            · refine r_iload X d_Model_total_82 (by rfl) ?_
              refine r_goto X d_Model_total_84 (tgt := 93) (by decide) ?_
              refine fin _ ?_
              show _ = if P (b * 3 + (k + 1) - 1) ≠ 0 then k + 1 else gEx P b k
              rw [if_pos hc]
      refine r_iload_n X d_Model_total_18 (by rfl) ?_
      refine r_bipush X (x := (nI 8)) d_Model_total_19 (by decide) ?_
      refine r_icmp_geN X d_Model_total_21 (tgt := 106) (by decide) (by omega) (by omega) (fun hc => ?_) (fun hc => ?_)
      · omega
      · refine r_aload_n X d_Model_total_24 (by rfl) ?_
        refine r_get X lf_Model_31 d_Model_total_25 (by assumption) (by rfl) ?_
        refine r_iload_n X d_Model_total_28 (by rfl) ?_
        refine r_iconst X (x := (nI 0)) d_Model_total_29 (by decide) ?_
        refine r_iast X d_Model_total_30 (by assumption) (by omega) (by omega) ?_
        refine r_iconst X (x := (nI 1)) d_Model_total_31 (by decide) ?_
        refine r_istore X d_Model_total_32 (by decide) ?_
        refine inner 3 0 _ (by omega) ?_ (fun i hi => ?_) ?_ (fun i hi => ?_) ?_ ?_ ?_ ?_
        · rw [arS_1n (by omega)]; exact k4
        · rw [arS_1, va_up_n (by omega)]; exact k8 i hi
        · rw [arS_1, va_up_s]; rfl
        · rw [arS_1n (by omega)]; exact k7 i (by omega)
        · rw [arS_1n (by omega)]; exact k6
        · rw [arS_1n (by omega)]; exact k5
        · rw [arS_2]; exact kz
        · exact kx.trans ((Out.ar (q := m + 8) (w := 1) (by omega) (by omega)).ex (fun a h1 h2 => by omega))
  refine r_iconst X (x := (nI 1)) d_Model_total_0 (by decide) ?_
  refine r_iload_n X d_Model_total_1 (by rfl) ?_
  refine r_cSi X ls_Model_109 (m_quotient (x := 1) (y := z) (by omega) hz) (by decide) rfl (Nat.le_of_ble_eq_true rfl) d_Model_total_2 rfl (fun S0 r h0 => ?_)
  obtain ⟨hxs, rfl⟩ := h0
  replace hxs := hxs.symm
  subst hxs
  rw [Nat.one_mul, show iv z = back from congrFun hbF (), Nat.mod_eq_of_lt hb7]
  refine r_istore_n X d_Model_total_5 (by decide) ?_
  refine r_aload_n X d_Model_total_6 (by rfl) ?_
  refine r_iload_n X d_Model_total_7 (by rfl) ?_
  refine r_cVv X lv_Model_56 (m_fresh (z := z) hm0) (by assumption) (by decide) rfl (Nat.le_of_ble_eq_true rfl) d_Model_total_8 rfl (fun S1 h1 => ?_)
  obtain ⟨h14, h15, h1z, hx1⟩ := h1
  have hg1 : okG (S1.1 (m + 4)) := by rw [h14]; exact hg.rst 0 (zero_ok 80)
  have hW1 : rowf (S1.1 (m + 4)) 240 = W := by rw [h14, rowf_ne (by omega)]; exact hW
  refine r_aload_n X d_Model_total_11 (by rfl) ?_
  refine r_iload_n X d_Model_total_12 (by rfl) ?_
  refine r_cVv X lv_Model_115 (m_solve (z := z) hm0 hz hg1 hW1) (by assumption) (by decide) rfl (Nat.le_of_ble_eq_true rfl) d_Model_total_13 rfl (fun S2 h2 => ?_)
  obtain ⟨h24, hx2⟩ := h2
  rw [hX, h14, rst_rst] at h24
  refine r_iconst X (x := (nI 0)) d_Model_total_16 (by decide) ?_
  refine r_istore_n X d_Model_total_17 (by decide) ?_
  refine loopA 8 0 S2 _ (by omega) h24 (fun i hi => absurd hi (by omega)) (fun i hi => absurd hi (by omega)) ?_ ?_ ?_ ?_
  · rw [(hx2 (m + 6) (by omega)).1, (hx1 (m + 6) (by omega)).1]; exact h6
  · rw [(hx2 (m + 5) (by omega)).1]; exact h15
  · rw [(hx2 m (by omega)).2]; exact h1z
  · exact (hx1.mono (fun a h => by omega)).trans (hx2.mono (fun a h => by omega))
end ME
