section MD
variable {l : Launch} {D : va_G} {cI cT : ClassId} {G : Gm} {S : Sg}
def yvn (W : Nat → Nat) (back : Nat) : Nat → Nat
  | 0 => 0
  | j + 1 => (yvn W back j + hn W j 80 0) % 10007 * back % 10007
theorem yvn_lt (W : Nat → Nat) (back j : Nat) : yvn W back j < 10007 := by
  cases j with
  | zero => exact (by decide : 0 < 10007)
  | succ j => exact Nat.mod_lt _ (by decide)
def vls (W : Nat → Nat) (back : Nat) : Nat → Nat := fun j => if j < 33 then yvn W back j else 0
theorem vls_lt (W : Nat → Nat) (back j : Nat) : vls W back j < 10007 := by
  unfold vls
  split
  · exact yvn_lt _ _ _
  · decide
def pwn (a s : Nat) : Nat → Nat
  | 0 => a
  | i + 1 => pwn a s i * s % 10007
theorem pwn_lt {a s : Nat} (h : a < 10007) (i : Nat) : pwn a s i < 10007 := by
  cases i with
  | zero => exact h
  | succ i => exact Nat.mod_lt _ (by decide)
def fst0 (F : Nat → Nat) (s : Nat) : Nat := (10007 - F 32) % 10007 * iv (pw s 32) % 10007
def cor (F : Nat → Nat) (s : Nat) : Nat → Nat := fun j => if j < 33 then (F j + pwn (fst0 F s) s j) % 10007 else F j
def svl (z : Nat) (W : Nat → Nat) : Nat → Nat := if z = 1 then dfv (vls W (iv z)) 32 else cor (dfv (vls W (iv z)) 32) ((iv z + 10006) % 10007)
theorem svl_lt (z : Nat) (W : Nat → Nat) (j : Nat) : svl z W j < 10007 := by
  have h := dfv_lt (vls_lt W (iv z)) 32 j
  unfold svl
  split
  · exact h
  · unfold cor
    split
    · exact Nat.mod_lt _ (by decide)
    · exact h
def fcn : Nat → Nat
  | 0 => 1
  | i + 1 => fcn i * (i + 1) % 10007
theorem fcn_lt (i : Nat) : fcn i < 10007 := by
  cases i with
  | zero => exact (by decide : 1 < 10007)
  | succ i => exact Nat.mod_lt _ (by decide)
def gfd : Nat → Nat
  | 0 => fcn 32
  | n + 1 => gfd n * iv (32 - n) % 10007
theorem gfd_lt (i : Nat) : gfd i < 10007 := by
  cases i with
  | zero => exact fcn_lt 32
  | succ i => exact Nat.mod_lt _ (by decide)
def hnw (F : Nat → Nat) : Nat → Nat → Nat → Nat
  | 0, _ => fun _ => 0
  | n + 1, i => va_up (mt 80 (rt i) (hnw F n (i + 1))) 0 ((mt 80 (rt i) (hnw F n (i + 1)) 0 + F i * iv (gfd (32 - i)) % 10007) % 10007)
theorem hnw_ok (F : Nat → Nat) : ∀ n i, okP 80 (hnw F n i) := by
  intro n i
  cases n with
  | zero => exact zero_ok 80
  | succ n => exact va_ok (mt_ok 80 _ _) (by omega) (Nat.mod_lt _ (by decide))
set_option maxHeartbeats 8000000 in
set_option maxRecDepth 100000 in
theorem m_solve {m z : Nat} {W : Nat → Nat} (hm : isM G m) (hz : z < 10007) (hg : okG (S.1 (m + 4))) (hW : rowf (S.1 (m + 4)) 240 = W) : CT (mkE l D cI cT) G y_Model_solve b_Model_solve 7 none 2 [.ref m, .int (nI z)] S (Pv (fun S' => S'.1 (m + 4) = rst (S.1 (m + 4)) 0 (hnw (svl z W) 33 0) ∧ Ex (fun a => a = m + 4 ∨ a = m + 9) S S')) := by
  have hm0 := hm
  obtain ⟨hM, hco, hex, hra, hpo, hbe, hwe, hro, hle, hva⟩ := hm
  obtain ⟨back, hbF, hb7⟩ : ∃ back, (fun _ : Unit => iv z) = (fun _ => back) ∧ back < 10007 := ⟨_, rfl, iv_lt z⟩
  refine mk_v (by decide) (eok l D cI cT) (by simp [Value.category]) (Nat.le_of_ble_eq_true rfl) (fun J X hR => ?_)
  show J S 0 [some (.ref m), some (.int (nI z)), none, none, none, none, none] []
  have loop4 : ∀ t S1 F v o5 o6, t ≤ 33 → (∀ j, F j < 10007) → S1.1 (m + 9) = F → S1.1 (m + 4) = rst (S.1 (m + 4)) 0 (hnw F (33 - t) t) → Ex (fun a => a = m + 4 ∨ a = m + 9) S S1 → F = svl z W → (0 < t → v = gfd (32 - (t - 1))) → J S1 185 [some (.ref m), some (.int (nI z)), some (.int (nI back)), some (.int (nI v)), some (.int (tI t)), o5, o6] [] := by
    intro t
    induction t with
    | zero =>
      intro S1 F v o5 o6 ht hF h9 h4 hx hFs hv
      refine r_iload X d_Model_solve_185 (by rfl) ?_
      refine r_if_ltT X d_Model_solve_187 (tgt := 249) (by decide) (by omega) (fun hc => ?_) (fun uu hc => ?_)
      · refine hR _ _ _ d_Model_solve_249 ⟨rfl, ?_, hx⟩
        rw [h4, hFs]
      · omega
    | succ t ih =>
      intro S1 F v o5 o6 ht hF h9 h4 hx hFs hv
      have hok := hnw_ok F (33 - (t + 1)) (t + 1)
      have hv : v = gfd (32 - t) := hv (by omega)
      have hv7 : v < 10007 := by rw [hv]; exact gfd_lt _
      have hg1 : okG (S1.1 (m + 4)) := by rw [h4]; exact hg.rst 0 hok
      have hFt := hF t
      refine r_iload X d_Model_solve_185 (by rfl) ?_
      refine r_if_ltT X d_Model_solve_187 (tgt := 249) (by decide) (by omega) (fun hc => ?_) (fun uu hc => ?_)
      · omega
      · rw [tI_s]
        refine r_aload_n X d_Model_solve_190 (by rfl) ?_
        refine r_iconst X (x := (nI 0)) d_Model_solve_191 (by decide) ?_
        refine r_iload X d_Model_solve_192 (by rfl) ?_
        refine r_ineg X d_Model_solve_194 ?_
        refine r_iconst X (x := (nI 1)) d_Model_solve_195 (by decide) ?_
        refine r_cVv X lv_Model_93 (m_times (p := 0) (x := -nI t) (n := 1) hm0 (by omega) hg1 (by omega)) (by assumption) (by decide) rfl (Nat.le_of_ble_eq_true rfl) d_Model_solve_196 rfl (fun S2 h2 => ?_)
        rw [h4, rowf_rst hok, rst_rst, em_neg (by omega)] at h2
        obtain ⟨R, hR0⟩ : ∃ R, R = mt 80 (rt t) (hnw F (33 - (t + 1)) (t + 1)) := ⟨_, rfl⟩
        have h2 : S2 = arS S1 (m + 4) (rst (S.1 (m + 4)) 0 (mt 80 (rt t) (hnw F (33 - (t + 1)) (t + 1)))) := h2
        rw [← hR0] at h2
        have ho2 : Out S1 S2 (m + 4) 1 := by rw [h2]; exact Out.ar (by omega) (by omega)
        have f2 : S2.1 (m + 4) = rst (S.1 (m + 4)) 0 (R) := by rw [h2, arS_1]
        have g0 : S2.1 (m + 4) 0 = R 0 := by
          rw [f2]
          have := rst_at (g := S.1 (m + 4)) (p := 0) (i := 0) (h := R) (by omega)
          exact this
        have g9 : S2.1 (m + 9) = F := by rw [ho2.a1 (by omega)]; exact h9
        have b0 : R 0 < 10007 := by rw [hR0]; exact (mt_ok 80 (rt t) (hnw F (33 - (t + 1)) (t + 1))).1 0
        refine r_aload_n X d_Model_solve_199 (by rfl) ?_
        refine r_get X lf_Model_19 d_Model_solve_200 (by assumption) (by rfl) ?_
        refine r_iconst X (x := (nI 0)) d_Model_solve_203 (by decide) ?_
        refine r_aload_n X d_Model_solve_204 (by rfl) ?_
        refine r_get X lf_Model_19 d_Model_solve_205 (by assumption) (by rfl) ?_
        refine r_iconst X (x := (nI 0)) d_Model_solve_208 (by decide) ?_
        refine r_iald X d_Model_solve_209 (by assumption) (by omega) (by omega) ?_
        rw [g0]
        refine r_aload_n X d_Model_solve_210 (by rfl) ?_
        refine r_get X lf_Model_34 d_Model_solve_211 (by assumption) (by rfl) ?_
        refine r_iload X d_Model_solve_214 (by rfl) ?_
        refine r_iald X d_Model_solve_216 (by assumption) (by omega) (by omega) ?_
        refine r_iload_n X d_Model_solve_217 (by rfl) ?_
        rw [g9]
        refine r_cSi X ls_Model_109 (m_quotient hFt hv7) (by decide) rfl (Nat.le_of_ble_eq_true rfl) d_Model_solve_218 rfl (fun S3 r h3 => ?_)
        obtain ⟨hxs, rfl⟩ := h3
        replace hxs := hxs.symm
        subst hxs
        have bq : F t * iv v % 10007 < 10007 := Nat.mod_lt _ (by decide)
        obtain ⟨qv, hqv⟩ : ∃ qv, qv = F t * iv v % 10007 := ⟨_, rfl⟩
        rw [← hqv] at bq ⊢
        first | refine r_iaddN X d_Model_solve_221 ?_ | refine r_iadd X d_Model_solve_221 ?_
        refine r_sipush X (x := (nI 10007)) d_Model_solve_222 (by decide) ?_
        refine r_iremN X d_Model_solve_225 (by decide) (by decide) (by omega) ?_
        refine r_iast X d_Model_solve_226 (by assumption) (by omega) (by omega) ?_
        have ho4 : Out S2 (arS S2 (m + 4) (va_up (S2.1 (m + 4)) 0 ((R 0 + qv) % 10007))) (m + 4) 1 := Out.ar (by omega) (by omega)
        have f4 : (arS S2 (m + 4) (va_up (S2.1 (m + 4)) 0 ((R 0 + qv) % 10007))).1 (m + 4) = rst (S.1 (m + 4)) 0 (hnw F (33 - t) t) := by
          rw [arS_1, f2, rst_up0, show 33 - t = (33 - (t + 1)) + 1 by omega, hqv, hv, hR0]
          rfl
        revert ho4 f4
        generalize arS S2 (m + 4) (va_up (S2.1 (m + 4)) 0 ((R 0 + qv) % 10007)) = S4
        intro ho4 f4
        have k9 : S4.1 (m + 9) = F := by rw [ho4.a1 (by omega)]; exact g9
        have kx : Ex (fun a => a = m + 4 ∨ a = m + 9) S S4 := (hx.trans (ho2.ex (fun a h1 h2 => by omega))).trans (ho4.ex (fun a h1 h2 => by omega))
        refine r_iload X d_Model_solve_227 (by rfl) ?_
        refine r_if_neN X d_Model_solve_229 (tgt := 236) (by decide) (by omega) (fun hc => ?_) (fun hc => ?_)
        · refine r_iload_n X d_Model_solve_236 (by rfl) ?_
          refine r_iload X d_Model_solve_237 (by rfl) ?_
          refine r_cSi X ls_Model_109 (m_quotient (x := v) (y := t) hv7 (by omega)) (by decide) rfl (Nat.le_of_ble_eq_true rfl) d_Model_solve_239 rfl (fun S5 r h5 => ?_)
          obtain ⟨hxs, rfl⟩ := h5
          replace hxs := hxs.symm
          subst hxs
          refine r_istore_n X d_Model_solve_242 (by decide) ?_
          refine r_iincD X d_Model_solve_243 (by rfl) (by decide) ?_
          refine r_goto X d_Model_solve_246 (tgt := 185) (by decide) ?_
          refine ih S4 F _ _ _ (by omega) hF k9 f4 kx hFs (fun h0 => ?_)
          rw [hv, show 32 - (t - 1) = (32 - t) + 1 by omega]
          show _ = gfd (32 - t) * iv (32 - (32 - t)) % 10007
          rw [show 32 - (32 - t) = t by omega]
        · refine r_iconst X (x := (nI 1)) d_Model_solve_232 (by decide) ?_
          refine r_goto X d_Model_solve_233 (tgt := 242) (by decide) ?_
          refine r_istore_n X d_Model_solve_242 (by decide) ?_
          refine r_iincD X d_Model_solve_243 (by rfl) (by decide) ?_
          refine r_goto X d_Model_solve_246 (tgt := 185) (by decide) ?_
          exact ih S4 F 1 _ _ (by omega) hF k9 f4 kx hFs (fun h0 => by omega)
  have tail : ∀ S1 F o3 o4 o5 o6, (∀ j, F j < 10007) → S1.1 (m + 9) = F → S1.1 (m + 4) = S.1 (m + 4) → Ex (fun a => a = m + 4 ∨ a = m + 9) S S1 → F = svl z W → J S1 149 [some (.ref m), some (.int (nI z)), some (.int (nI back)), o3, o4, o5, o6] [] := by
    intro S1 F o3 o4 o5 o6 hF h9 h4 hx hFs
    refine r_aload_n X d_Model_solve_149 (by rfl) ?_
    refine r_iconst X (x := (nI 0)) d_Model_solve_150 (by decide) ?_
    refine r_cVv X lv_Model_41 (m_clear (p := 0) hm0 (by omega)) (by assumption) (by decide) rfl (Nat.le_of_ble_eq_true rfl) d_Model_solve_151 rfl (fun S2 h2 => ?_)
    have ho2 : Out S1 S2 (m + 4) 1 := by rw [h2]; exact Out.ar (by omega) (by omega)
    have f2 : S2.1 (m + 4) = rst (S.1 (m + 4)) 0 (fun _ => 0) := by rw [h2, arS_1, h4]
    have g9 : S2.1 (m + 9) = F := by rw [ho2.a1 (by omega)]; exact h9
    have kx : Ex (fun a => a = m + 4 ∨ a = m + 9) S S2 := hx.trans (ho2.ex (fun a h1 h2 => by omega))
    have loop3 : ∀ n i, i + n = 32 → J S2 159 [some (.ref m), some (.int (nI z)), some (.int (nI back)), some (.int (nI (fcn i))), some (.int (nI (i + 1))), o5, o6] [] := by
      intro n
      induction n with
      | zero =>
        intro i hi
        have hi32 : i = 32 := by omega
        subst hi32
        refine r_iload X d_Model_solve_159 (by rfl) ?_
        refine r_bipush X (x := (nI 33)) d_Model_solve_161 (by decide) ?_
        refine r_icmp_geN X d_Model_solve_163 (tgt := 181) (by decide) (by omega) (by omega) (fun hc => ?_) (fun hc => ?_)
        · refine r_bipush X (x := tI 33) d_Model_solve_181 (by decide) ?_
          refine r_istore X d_Model_solve_183 (by decide) ?_
          exact loop4 33 S2 F _ _ _ (by omega) hF g9 f2 kx hFs (fun _ => rfl)
        · omega
      | succ n ih =>
        intro i hi
        have hf := fcn_lt i
        have hml : fcn i * (i + 1) ≤ 100120036 := mul_bd hf (by omega)
        refine r_iload X d_Model_solve_159 (by rfl) ?_
        refine r_bipush X (x := (nI 33)) d_Model_solve_161 (by decide) ?_
        refine r_icmp_geN X d_Model_solve_163 (tgt := 181) (by decide) (by omega) (by omega) (fun hc => ?_) (fun hc => ?_)
        · omega
        · refine r_iload_n X d_Model_solve_166 (by rfl) ?_
          refine r_iload X d_Model_solve_167 (by rfl) ?_
          first | refine r_imulN X d_Model_solve_169 ?_ | refine r_imul X d_Model_solve_169 ?_
          refine r_sipush X (x := (nI 10007)) d_Model_solve_170 (by decide) ?_
          refine r_iremN X d_Model_solve_173 (by decide) (by decide) (by omega) ?_
          refine r_istore_n X d_Model_solve_174 (by decide) ?_
          refine r_iincN X 1 d_Model_solve_175 (by rfl) (by decide) (by decide) ?_
          refine r_goto X d_Model_solve_178 (tgt := 159) (by decide) ?_
          exact ih (i + 1) (by omega)
    refine r_iconst X (x := (nI 1)) d_Model_solve_154 (by decide) ?_
    refine r_istore_n X d_Model_solve_155 (by decide) ?_
    refine r_iconst X (x := (nI 1)) d_Model_solve_156 (by decide) ?_
    refine r_istore X d_Model_solve_157 (by decide) ?_
    exact loop3 32 0 (by omega)
  have mid : ∀ S1 o3, S1.1 (m + 9) = vls W back → S1.1 (m + 4) = S.1 (m + 4) → Ex (fun a => a = m + 4 ∨ a = m + 9) S S1 → J S1 60 [some (.ref m), some (.int (nI z)), some (.int (nI back)), o3, none, none, none] [] := by
    intro S1 o3 h9 h4 hx
    refine r_aload_n X d_Model_solve_60 (by rfl) ?_
    refine r_cVv X lv_Model_112 (m_differences hm0 (vls_lt W back) h9) (by assumption) (by decide) rfl (Nat.le_of_ble_eq_true rfl) d_Model_solve_61 rfl (fun S2 h2 => ?_)
    have hD := dfv_lt (vls_lt W back) 32
    obtain ⟨Dv, hDv⟩ : ∃ Dv, Dv = dfv (vls W back) 32 := ⟨_, rfl⟩
    rw [← hDv] at hD h2
    have ho2 : Out S1 S2 (m + 9) 1 := by rw [h2]; exact Out.ar (by omega) (by omega)
    have f2 : S2.1 (m + 9) = Dv := by rw [h2, arS_1]
    have g4 : S2.1 (m + 4) = S.1 (m + 4) := by rw [ho2.a1 (by omega)]; exact h4
    have kx : Ex (fun a => a = m + 4 ∨ a = m + 9) S S2 := hx.trans (ho2.ex (fun a h1 h2 => by omega))
    refine r_iload_n X d_Model_solve_64 (by rfl) ?_
    refine r_iconst X (x := (nI 1)) d_Model_solve_65 (by decide) ?_
    refine r_icmp_eqN X d_Model_solve_66 (tgt := 149) (by decide) (by omega) (by omega) (fun hc => ?_) (fun hc => ?_)
    · refine tail S2 _ _ _ _ _ hD f2 g4 kx ?_
      unfold svl
      rw [if_pos hc, show iv z = back from congrFun hbF ()]
      exact hDv
    · refine r_iload_n X d_Model_solve_69 (by rfl) ?_
      refine r_iconst X (x := (nI 1)) d_Model_solve_70 (by decide) ?_
      refine r_isub X d_Model_solve_71 ?_
      refine r_cSi X ls_Model_45 m_mod (by decide) rfl (Nat.le_of_ble_eq_true rfl) d_Model_solve_72 rfl (fun S3 r h3 => ?_)
      obtain ⟨hxs, rfl⟩ := h3
      replace hxs := hxs.symm
      subst hxs
      rw [em_sub (by omega) (by omega)]
      have hst : (back + (10007 - 1)) % 10007 = (back + 10006) % 10007 := rfl
      rw [hst]
      have hs7 : (back + 10006) % 10007 < 10007 := Nat.mod_lt _ (by decide)
      generalize hsd : (back + 10006) % 10007 = st at hs7 ⊢
      have h32 := hD 32
      refine r_istore_n X d_Model_solve_75 (by decide) ?_
      refine r_aload_n X d_Model_solve_76 (by rfl) ?_
      refine r_get X lf_Model_34 d_Model_solve_77 (by assumption) (by rfl) ?_
      refine r_bipush X (x := (nI 32)) d_Model_solve_80 (by decide) ?_
      refine r_iald X d_Model_solve_82 (by assumption) (by omega) (by omega) ?_
      rw [f2]
      refine r_ineg X d_Model_solve_83 ?_
      refine r_cSi X ls_Model_45 m_mod (by decide) rfl (Nat.le_of_ble_eq_true rfl) d_Model_solve_84 rfl (fun S3 r h3 => ?_)
      obtain ⟨hxs, rfl⟩ := h3
      replace hxs := hxs.symm
      subst hxs
      rw [em_neg h32]
      refine r_iload_n X d_Model_solve_87 (by rfl) ?_
      refine r_bipush X (x := (nI 32)) d_Model_solve_88 (by decide) ?_
      refine r_cSi X ls_Model_37 (m_raise (b := st) (n := 32) hs7 (by omega)) (by decide) rfl (Nat.le_of_ble_eq_true rfl) d_Model_solve_90 rfl (fun S3 r h3 => ?_)
      obtain ⟨hxs, rfl⟩ := h3
      replace hxs := hxs.symm
      subst hxs
      refine r_cSi X ls_Model_109 (m_quotient (x := (10007 - Dv 32) % 10007) (y := pw st 32) (Nat.mod_lt _ (by decide)) (pwl st 32)) (by decide) rfl (Nat.le_of_ble_eq_true rfl) d_Model_solve_93 rfl (fun S3 r h3 => ?_)
      obtain ⟨hxs, rfl⟩ := h3
      replace hxs := hxs.symm
      subst hxs
      obtain ⟨fa, hfa, hf7⟩ : ∃ fa, fa = (10007 - Dv 32) % 10007 * iv (pw st 32) % 10007 ∧ fa < 10007 := ⟨_, rfl, Nat.mod_lt _ (by decide)⟩
      rw [← hfa]
      have hfF : (fun _ : Unit => fst0 Dv st) = (fun _ => fa) := by
        unfold fst0
        rw [hfa]
      clear hfa
      have loop2 : ∀ n i S3, i + n = 33 → S3 = arS S2 (m + 9) (fun j => if j < i then (Dv j + pwn fa st j) % 10007 else Dv j) → J S3 105 [some (.ref m), some (.int (nI z)), some (.int (nI back)), some (.int (nI st)), some (.int (nI fa)), some (.int (nI (pwn fa st i))), some (.int (nI i))] [] := by
        intro n
        induction n with
        | zero =>
          intro i S3 hi hS
          have ho3 : Out S2 S3 (m + 9) 1 := by rw [hS]; exact Out.ar (by omega) (by omega)
          have e3 : S3.1 (m + 9) = svl z W := by
            rw [hS, arS_1, show i = 33 by omega]
            unfold svl cor
            rw [if_neg hc, show iv z = back from congrFun hbF (), ← hDv, hsd, show fst0 Dv st = fa from congrFun hfF ()]
          refine r_iload X d_Model_solve_105 (by rfl) ?_
          refine r_bipush X (x := (nI 33)) d_Model_solve_107 (by decide) ?_
          refine r_icmp_geN X d_Model_solve_109 (tgt := 149) (by decide) (by omega) (by omega) (fun hc => ?_) (fun hc => ?_)
          · refine tail S3 _ _ _ _ _ (svl_lt z W) e3 ?_ ?_ rfl
            · rw [ho3.a1 (by omega)]; exact g4
            · exact kx.trans (ho3.ex (fun a h1 h2 => by omega))
          · omega
        | succ n ih =>
          intro i S3 hi hS
          have e1 : S3.1 (m + 9) i = Dv i := by rw [hS, arS_1, if_neg (by omega)]
          have l1 := hD i
          have l2 := pwn_lt (s := st) hf7 i
          have hml := mul_bd l2 hs7
          refine r_iload X d_Model_solve_105 (by rfl) ?_
          refine r_bipush X (x := (nI 33)) d_Model_solve_107 (by decide) ?_
          refine r_icmp_geN X d_Model_solve_109 (tgt := 149) (by decide) (by omega) (by omega) (fun hc => ?_) (fun hc => ?_)
          · omega
          · refine r_aload_n X d_Model_solve_112 (by rfl) ?_
            refine r_get X lf_Model_34 d_Model_solve_113 (by assumption) (by rfl) ?_
            refine r_iload X d_Model_solve_116 (by rfl) ?_
            refine r_aload_n X d_Model_solve_118 (by rfl) ?_
            refine r_get X lf_Model_34 d_Model_solve_119 (by assumption) (by rfl) ?_
            refine r_iload X d_Model_solve_122 (by rfl) ?_
            refine r_iald X d_Model_solve_124 (by assumption) (by omega) (by omega) ?_
            rw [e1]
            refine r_iload X d_Model_solve_125 (by rfl) ?_
            first | refine r_iaddN X d_Model_solve_127 ?_ | refine r_iadd X d_Model_solve_127 ?_
            refine r_sipush X (x := (nI 10007)) d_Model_solve_128 (by decide) ?_
            refine r_iremN X d_Model_solve_131 (by decide) (by decide) (by omega) ?_
            refine r_iast X d_Model_solve_132 (by assumption) (by omega) (by omega) ?_
            refine r_iload X d_Model_solve_133 (by rfl) ?_
            refine r_iload_n X d_Model_solve_135 (by rfl) ?_
            first | refine r_imulN X d_Model_solve_136 ?_ | refine r_imul X d_Model_solve_136 ?_
            refine r_sipush X (x := (nI 10007)) d_Model_solve_137 (by decide) ?_
            refine r_iremN X d_Model_solve_140 (by decide) (by decide) (by omega) ?_
            refine r_istore X d_Model_solve_141 (by decide) ?_
            refine r_iincN X 1 d_Model_solve_143 (by rfl) (by decide) (by decide) ?_
            refine r_goto X d_Model_solve_146 (tgt := 105) (by decide) ?_
            refine ih (i + 1) _ (by omega) ?_
            rw [hS, arS_arS, arS_1]
            congr 1
            funext j
            by_cases hj : j = i
            · rw [hj, va_up_s, if_pos (by omega)]
            · rw [va_up_n hj]
              by_cases hj2 : j < i
              · rw [if_pos hj2, if_pos (by omega)]
              · rw [if_neg hj2, if_neg (by omega)]
      refine r_istore X d_Model_solve_96 (by decide) ?_
      refine r_iload X d_Model_solve_98 (by rfl) ?_
      refine r_istore X d_Model_solve_100 (by decide) ?_
      refine r_iconst X (x := (nI 0)) d_Model_solve_102 (by decide) ?_
      refine r_istore X d_Model_solve_103 (by decide) ?_
      refine loop2 33 0 S2 (by omega) ?_
      have e0 : S2.1 (m + 9) = fun j => if j < 0 then (Dv j + pwn fa st j) % 10007 else Dv j := by
        rw [f2]
        funext j
        rw [if_neg (by omega)]
      rw [← e0, arS_id]
  have loop1 : ∀ n i S1, i + n = 32 → S1 = arS S (m + 9) (fun j => if j < i + 1 then yvn W back j else S.1 (m + 9) j) → J S1 15 [some (.ref m), some (.int (nI z)), some (.int (nI back)), some (.int (nI i)), none, none, none] [] := by
    intro n
    induction n with
    | zero =>
      intro i S1 hi hS
      refine r_iload_n X d_Model_solve_15 (by rfl) ?_
      refine r_bipush X (x := (nI 32)) d_Model_solve_16 (by decide) ?_
      refine r_icmp_geN X d_Model_solve_18 (tgt := 60) (by decide) (by omega) (by omega) (fun hc => ?_) (fun hc => ?_)
      · refine r_trunc X (f := vls W back) hva (fun j hj => by rw [hS, arS_1, if_pos (by omega)]; unfold vls; rw [if_pos hj]) ?_
        rw [hS, arS_arS]
        refine mid _ _ (by rw [arS_1]) (by rw [arS_1n (by omega)]) ((Out.ar (q := m + 9) (w := 1) (by omega) (by omega)).ex (fun a h1 h2 => by omega))
      · omega
    | succ n ih =>
      intro i S1 hi hS
      have e1 : S1.1 (m + 9) i = yvn W back i := by rw [hS, arS_1, if_pos (by omega)]
      have e4 : S1.1 (m + 4) = S.1 (m + 4) := by rw [hS, arS_1n (by omega)]
      have l1 := yvn_lt W back i
      obtain ⟨y0, hy0⟩ : ∃ y0, y0 = hn W i 80 0 := ⟨_, rfl⟩
      have l2 : y0 < 10007 := by rw [hy0]; exact hn_lt W i 80 0
      have hml := mul_bd (Nat.mod_lt (yvn W back i + y0) (show 0 < 10007 by decide)) hb7
      refine r_iload_n X d_Model_solve_15 (by rfl) ?_
      refine r_bipush X (x := (nI 32)) d_Model_solve_16 (by decide) ?_
      refine r_icmp_geN X d_Model_solve_18 (tgt := 60) (by decide) (by omega) (by omega) (fun hc => ?_) (fun hc => ?_)
      · omega
      · refine r_aload_n X d_Model_solve_21 (by rfl) ?_
        refine r_get X lf_Model_34 d_Model_solve_22 (by assumption) (by rfl) ?_
        refine r_iload_n X d_Model_solve_25 (by rfl) ?_
        refine r_iconst X (x := (nI 1)) d_Model_solve_26 (by decide) ?_
        first | refine r_iaddN X d_Model_solve_27 ?_ | refine r_iadd X d_Model_solve_27 ?_
        refine r_aload_n X d_Model_solve_28 (by rfl) ?_
        refine r_get X lf_Model_34 d_Model_solve_29 (by assumption) (by rfl) ?_
        refine r_iload_n X d_Model_solve_32 (by rfl) ?_
        refine r_iald X d_Model_solve_33 (by assumption) (by omega) (by omega) ?_
        rw [e1]
        refine r_aload_n X d_Model_solve_34 (by rfl) ?_
        refine r_sipush X (x := (nI 240)) d_Model_solve_35 (by decide) ?_
        refine r_iload_n X d_Model_solve_38 (by rfl) ?_
        refine r_cVi X lv_Model_59 (m_at (p := 240) (x := nI i) hm0 (by omega) (by rw [e4]; exact hg)) (by assumption) (by decide) rfl (Nat.le_of_ble_eq_true rfl) d_Model_solve_39 rfl (fun S2 r h2 => ?_)
        obtain ⟨hxs, rfl⟩ := h2
        replace hxs := hxs.symm
        subst hxs
        rw [e4, hW, em_nI (by omega), Nat.mod_eq_of_lt (by omega), ← hy0]
        first | refine r_iaddN X d_Model_solve_42 ?_ | refine r_iadd X d_Model_solve_42 ?_
        refine r_sipush X (x := (nI 10007)) d_Model_solve_43 (by decide) ?_
        refine r_iremN X d_Model_solve_46 (by decide) (by decide) (by omega) ?_
        refine r_iload_n X d_Model_solve_47 (by rfl) ?_
        first | refine r_imulN X d_Model_solve_48 ?_ | refine r_imul X d_Model_solve_48 ?_
        refine r_sipush X (x := (nI 10007)) d_Model_solve_49 (by decide) ?_
        refine r_iremN X d_Model_solve_52 (by decide) (by decide) (by omega) ?_
        refine r_iast X d_Model_solve_53 (by assumption) (by omega) (by omega) ?_
        refine r_iincN X 1 d_Model_solve_54 (by rfl) (by decide) (by decide) ?_
        refine r_goto X d_Model_solve_57 (tgt := 15) (by decide) ?_
        refine ih (i + 1) _ (by omega) ?_
        rw [hS, arS_arS, arS_1]
        congr 1
        funext j
        by_cases hj : j = i + 1
        · rw [hj, va_up_s, if_pos (by omega), hy0]
          rfl
        · rw [va_up_n hj]
          by_cases hj2 : j < i + 1
          · rw [if_pos hj2, if_pos (by omega)]
          · rw [if_neg hj2, if_neg (by omega)]
  refine r_iconst X (x := (nI 1)) d_Model_solve_0 (by decide) ?_
  refine r_iload_n X d_Model_solve_1 (by rfl) ?_
  refine r_cSi X ls_Model_109 (m_quotient (x := 1) (y := z) (by omega) hz) (by decide) rfl (Nat.le_of_ble_eq_true rfl) d_Model_solve_2 rfl (fun S2 r h2 => ?_)
  obtain ⟨hxs, rfl⟩ := h2
  replace hxs := hxs.symm
  subst hxs
  rw [Nat.one_mul, show iv z = back from congrFun hbF (), Nat.mod_eq_of_lt hb7]
  refine r_istore_n X d_Model_solve_5 (by decide) ?_
  refine r_aload_n X d_Model_solve_6 (by rfl) ?_
  refine r_get X lf_Model_34 d_Model_solve_7 (by assumption) (by rfl) ?_
  refine r_iconst X (x := (nI 0)) d_Model_solve_10 (by decide) ?_
  refine r_iconst X (x := (nI 0)) d_Model_solve_11 (by decide) ?_
  refine r_iast X d_Model_solve_12 (by assumption) (by omega) (by omega) ?_
  refine r_iconst X (x := (nI 0)) d_Model_solve_13 (by decide) ?_
  refine r_istore_n X d_Model_solve_14 (by decide) ?_
  refine loop1 32 0 _ (by omega) ?_
  congr 1
  funext j
  by_cases hj : j = 0
  · rw [hj, va_up_s, if_pos (by omega)]
    rfl
  · rw [va_up_n hj, if_neg (by omega)]
end MD
