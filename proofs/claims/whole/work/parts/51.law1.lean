theorem d_Law_sw : decode b_Law_law 32 = .ok (.tableswitch 732 0 17 #[88, 121, 164, 197, 240, 283, 326, 359, 392, 435, 468, 501, 524, 547, 580, 613, 656, 689], 88) := by decide +kernel
section LC
variable {l : Launch} {D : va_G} {cI cT : ClassId} {G : Gm} {S : Sg} {J : Jt} {B M b i : Nat} {y : Nat → Int32} {V : Vt}
theorem MI.ex {S S1 : Sg} {m : Nat} {V : Vt} {P : Nat → Prop} (h : MI S m V) (hx : Ex P S S1) (hp : ∀ a, m ≤ a → a < m + 10 → ¬ P a) : MI S1 m V := by
  refine ⟨h.1.ex hx (hp _ (by omega) (by omega)) (hp _ (by omega) (by omega)) (hp _ (by omega) (by omega)), ?_⟩
  rw [(hx (m + 4) (hp _ (by omega) (by omega))).1]
  exact h.2
def Sld (J : Jt) (b i : Nat) (y : Nat → Int32) : Prop := ∀ (S : Sg) (pc : Nat) (L : List (Option Value)) (st : List Value) (k : Nat), k < 4 → decode b_Law_law pc = .ok (.iaload, 1) → J S (pc + 1) L (.int (y k) :: st) → J S pc L (.int (nI (i + k)) :: .ref b :: st)
set_option maxHeartbeats 4000000 in
set_option maxRecDepth 100000 in
theorem lc_const (X : Cx (mkE l D cI cT) G "TelescopeDeskLaw" b_Law_law 4 8 J) (hD : isD G cT B) (hM : isM G M) (hBM : B + 58 ≤ M) (hsl : Sld J b i y) (hg : gV V) (hR : Rep S B V) (hI : MI S M V) (next : ∀ S2 V2, gV V2 → Rep S2 B V2 → MI S2 M V2 → J S2 764 [some (.ref b), some (.ref B), some (.ref M), some (.int (nI i))] []) : J S 120 [some (.ref b), some (.ref B), some (.ref M), some (.int (nI i))] [] := by
  have hB := hD.1
  have hMM := hM.1
  refine r_aload_n X d_Law_law_120 (by rfl) ?_
  refine r_aload_n X d_Law_law_121 (by rfl) ?_
  refine r_iload_n X d_Law_law_122 (by rfl) ?_
  refine r_iconst X (x := (nI 1)) d_Law_law_123 (by decide) ?_
  refine r_iaddN X d_Law_law_124 ?_
  refine hsl _ _ _ _ 1 (by omega) d_Law_law_125 ?_
  refine r_aload_n X d_Law_law_126 (by rfl) ?_
  refine r_iload_n X d_Law_law_127 (by rfl) ?_
  refine r_iconst X (x := (nI 2)) d_Law_law_128 (by decide) ?_
  refine r_iaddN X d_Law_law_129 ?_
  refine hsl _ _ _ _ 2 (by omega) d_Law_law_130 ?_
  refine r_cVi X lv_Law_13 (c_constant hD hR) hB (by decide) rfl (Nat.le_of_ble_eq_true rfl) d_Law_law_131 rfl (fun S1 r1 h1 => ?_)
  obtain ⟨V1, o1, R1, x1⟩ := h1
  have I1 : MI S1 M V := hI.ex x1 (fun a h1 h2 => by omega)
  refine r_aload_n X d_Law_law_134 (by rfl) ?_
  refine r_aload_n X d_Law_law_135 (by rfl) ?_
  refine r_iload_n X d_Law_law_136 (by rfl) ?_
  refine r_iconst X (x := (nI 1)) d_Law_law_137 (by decide) ?_
  refine r_iaddN X d_Law_law_138 ?_
  refine hsl _ _ _ _ 1 (by omega) d_Law_law_139 ?_
  refine r_aload_n X d_Law_law_140 (by rfl) ?_
  refine r_iload_n X d_Law_law_141 (by rfl) ?_
  refine r_iconst X (x := (nI 2)) d_Law_law_142 (by decide) ?_
  refine r_iaddN X d_Law_law_143 ?_
  refine hsl _ _ _ _ 2 (by omega) d_Law_law_144 ?_
  refine r_cVi X lv_Law_17 (m_constant hM I1) hMM (by decide) rfl (Nat.le_of_ble_eq_true rfl) d_Law_law_145 rfl (fun S2 r2 h2 => ?_)
  obtain ⟨V2, o2, I2, x2⟩ := h2
  obtain ⟨e1, e2⟩ := f_const o1 o2
  subst e1
  subst e2
  have hg2 := k_const hg o1
  have R2 : Rep S2 B V1 := R1.ex x2 (fun a h1 h2 => by omega)
  exact r_icmp_eq X d_Law_law_148 (tgt := 764) (by decide) (fun _ => next _ _ hg2 R2 I2) (fun hc => absurd rfl hc)
set_option maxHeartbeats 4000000 in
set_option maxRecDepth 100000 in
theorem lc_lin (X : Cx (mkE l D cI cT) G "TelescopeDeskLaw" b_Law_law 4 8 J) (hD : isD G cT B) (hM : isM G M) (hBM : B + 58 ≤ M) (hsl : Sld J b i y) (hg : gV V) (hR : Rep S B V) (hI : MI S M V) (next : ∀ S2 V2, gV V2 → Rep S2 B V2 → MI S2 M V2 → J S2 764 [some (.ref b), some (.ref B), some (.ref M), some (.int (nI i))] []) : J S 153 [some (.ref b), some (.ref B), some (.ref M), some (.int (nI i))] [] := by
  have hB := hD.1
  have hMM := hM.1
  refine r_aload_n X d_Law_law_153 (by rfl) ?_
  refine r_aload_n X d_Law_law_154 (by rfl) ?_
  refine r_iload_n X d_Law_law_155 (by rfl) ?_
  refine r_iconst X (x := (nI 1)) d_Law_law_156 (by decide) ?_
  refine r_iaddN X d_Law_law_157 ?_
  refine hsl _ _ _ _ 1 (by omega) d_Law_law_158 ?_
  refine r_aload_n X d_Law_law_159 (by rfl) ?_
  refine r_iload_n X d_Law_law_160 (by rfl) ?_
  refine r_iconst X (x := (nI 2)) d_Law_law_161 (by decide) ?_
  refine r_iaddN X d_Law_law_162 ?_
  refine hsl _ _ _ _ 2 (by omega) d_Law_law_163 ?_
  refine r_aload_n X d_Law_law_164 (by rfl) ?_
  refine r_iload_n X d_Law_law_165 (by rfl) ?_
  refine r_iconst X (x := (nI 3)) d_Law_law_166 (by decide) ?_
  refine r_iaddN X d_Law_law_167 ?_
  refine hsl _ _ _ _ 3 (by omega) d_Law_law_168 ?_
  refine r_cVi X lv_Law_18 (c_linear hD hR) hB (by decide) rfl (Nat.le_of_ble_eq_true rfl) d_Law_law_169 rfl (fun S1 r1 h1 => ?_)
  obtain ⟨V1, o1, R1, x1⟩ := h1
  have I1 : MI S1 M V := hI.ex x1 (fun a h1 h2 => by omega)
  refine r_aload_n X d_Law_law_172 (by rfl) ?_
  refine r_aload_n X d_Law_law_173 (by rfl) ?_
  refine r_iload_n X d_Law_law_174 (by rfl) ?_
  refine r_iconst X (x := (nI 1)) d_Law_law_175 (by decide) ?_
  refine r_iaddN X d_Law_law_176 ?_
  refine hsl _ _ _ _ 1 (by omega) d_Law_law_177 ?_
  refine r_aload_n X d_Law_law_178 (by rfl) ?_
  refine r_iload_n X d_Law_law_179 (by rfl) ?_
  refine r_iconst X (x := (nI 2)) d_Law_law_180 (by decide) ?_
  refine r_iaddN X d_Law_law_181 ?_
  refine hsl _ _ _ _ 2 (by omega) d_Law_law_182 ?_
  refine r_aload_n X d_Law_law_183 (by rfl) ?_
  refine r_iload_n X d_Law_law_184 (by rfl) ?_
  refine r_iconst X (x := (nI 3)) d_Law_law_185 (by decide) ?_
  refine r_iaddN X d_Law_law_186 ?_
  refine hsl _ _ _ _ 3 (by omega) d_Law_law_187 ?_
  refine r_cVi X lv_Law_22 (m_linear hM I1) hMM (by decide) rfl (Nat.le_of_ble_eq_true rfl) d_Law_law_188 rfl (fun S2 r2 h2 => ?_)
  obtain ⟨V2, o2, I2, x2⟩ := h2
  obtain ⟨e1, e2⟩ := f_lin o1 o2
  subst e1
  subst e2
  have hg2 := k_lin hg o1
  have R2 : Rep S2 B V1 := R1.ex x2 (fun a h1 h2 => by omega)
  exact r_icmp_eq X d_Law_law_191 (tgt := 764) (by decide) (fun _ => next _ _ hg2 R2 I2) (fun hc => absurd rfl hc)
set_option maxHeartbeats 4000000 in
set_option maxRecDepth 100000 in
theorem lc_pow (X : Cx (mkE l D cI cT) G "TelescopeDeskLaw" b_Law_law 4 8 J) (hD : isD G cT B) (hM : isM G M) (hBM : B + 58 ≤ M) (hsl : Sld J b i y) (hg : gV V) (hR : Rep S B V) (hI : MI S M V) (next : ∀ S2 V2, gV V2 → Rep S2 B V2 → MI S2 M V2 → J S2 764 [some (.ref b), some (.ref B), some (.ref M), some (.int (nI i))] []) : J S 196 [some (.ref b), some (.ref B), some (.ref M), some (.int (nI i))] [] := by
  have hB := hD.1
  have hMM := hM.1
  refine r_aload_n X d_Law_law_196 (by rfl) ?_
  refine r_aload_n X d_Law_law_197 (by rfl) ?_
  refine r_iload_n X d_Law_law_198 (by rfl) ?_
  refine r_iconst X (x := (nI 1)) d_Law_law_199 (by decide) ?_
  refine r_iaddN X d_Law_law_200 ?_
  refine hsl _ _ _ _ 1 (by omega) d_Law_law_201 ?_
  refine r_aload_n X d_Law_law_202 (by rfl) ?_
  refine r_iload_n X d_Law_law_203 (by rfl) ?_
  refine r_iconst X (x := (nI 2)) d_Law_law_204 (by decide) ?_
  refine r_iaddN X d_Law_law_205 ?_
  refine hsl _ _ _ _ 2 (by omega) d_Law_law_206 ?_
  refine r_cVi X lv_Law_23 (c_power hD hR) hB (by decide) rfl (Nat.le_of_ble_eq_true rfl) d_Law_law_207 rfl (fun S1 r1 h1 => ?_)
  obtain ⟨V1, o1, R1, x1⟩ := h1
  have I1 : MI S1 M V := hI.ex x1 (fun a h1 h2 => by omega)
  refine r_aload_n X d_Law_law_210 (by rfl) ?_
  refine r_aload_n X d_Law_law_211 (by rfl) ?_
  refine r_iload_n X d_Law_law_212 (by rfl) ?_
  refine r_iconst X (x := (nI 1)) d_Law_law_213 (by decide) ?_
  refine r_iaddN X d_Law_law_214 ?_
  refine hsl _ _ _ _ 1 (by omega) d_Law_law_215 ?_
  refine r_aload_n X d_Law_law_216 (by rfl) ?_
  refine r_iload_n X d_Law_law_217 (by rfl) ?_
  refine r_iconst X (x := (nI 2)) d_Law_law_218 (by decide) ?_
  refine r_iaddN X d_Law_law_219 ?_
  refine hsl _ _ _ _ 2 (by omega) d_Law_law_220 ?_
  refine r_cVi X lv_Law_26 (m_power hM I1) hMM (by decide) rfl (Nat.le_of_ble_eq_true rfl) d_Law_law_221 rfl (fun S2 r2 h2 => ?_)
  obtain ⟨V2, o2, I2, x2⟩ := h2
  obtain ⟨e1, e2⟩ := f_pow o1 o2
  subst e1
  subst e2
  have hg2 := k_pow hg o1
  have R2 : Rep S2 B V1 := R1.ex x2 (fun a h1 h2 => by omega)
  exact r_icmp_eq X d_Law_law_224 (tgt := 764) (by decide) (fun _ => next _ _ hg2 R2 I2) (fun hc => absurd rfl hc)
set_option maxHeartbeats 4000000 in
set_option maxRecDepth 100000 in
theorem lc_pole (X : Cx (mkE l D cI cT) G "TelescopeDeskLaw" b_Law_law 4 8 J) (hD : isD G cT B) (hM : isM G M) (hBM : B + 58 ≤ M) (hsl : Sld J b i y) (hg : gV V) (hR : Rep S B V) (hI : MI S M V) (next : ∀ S2 V2, gV V2 → Rep S2 B V2 → MI S2 M V2 → J S2 764 [some (.ref b), some (.ref B), some (.ref M), some (.int (nI i))] []) : J S 229 [some (.ref b), some (.ref B), some (.ref M), some (.int (nI i))] [] := by
  have hB := hD.1
  have hMM := hM.1
  refine r_aload_n X d_Law_law_229 (by rfl) ?_
  refine r_aload_n X d_Law_law_230 (by rfl) ?_
  refine r_iload_n X d_Law_law_231 (by rfl) ?_
  refine r_iconst X (x := (nI 1)) d_Law_law_232 (by decide) ?_
  refine r_iaddN X d_Law_law_233 ?_
  refine hsl _ _ _ _ 1 (by omega) d_Law_law_234 ?_
  refine r_aload_n X d_Law_law_235 (by rfl) ?_
  refine r_iload_n X d_Law_law_236 (by rfl) ?_
  refine r_iconst X (x := (nI 2)) d_Law_law_237 (by decide) ?_
  refine r_iaddN X d_Law_law_238 ?_
  refine hsl _ _ _ _ 2 (by omega) d_Law_law_239 ?_
  refine r_aload_n X d_Law_law_240 (by rfl) ?_
  refine r_iload_n X d_Law_law_241 (by rfl) ?_
  refine r_iconst X (x := (nI 3)) d_Law_law_242 (by decide) ?_
  refine r_iaddN X d_Law_law_243 ?_
  refine hsl _ _ _ _ 3 (by omega) d_Law_law_244 ?_
  refine r_cVi X lv_Law_27 (c_pole hD hR) hB (by decide) rfl (Nat.le_of_ble_eq_true rfl) d_Law_law_245 rfl (fun S1 r1 h1 => ?_)
  obtain ⟨V1, o1, R1, x1⟩ := h1
  have I1 : MI S1 M V := hI.ex x1 (fun a h1 h2 => by omega)
  refine r_aload_n X d_Law_law_248 (by rfl) ?_
  refine r_aload_n X d_Law_law_249 (by rfl) ?_
  refine r_iload_n X d_Law_law_250 (by rfl) ?_
  refine r_iconst X (x := (nI 1)) d_Law_law_251 (by decide) ?_
  refine r_iaddN X d_Law_law_252 ?_
  refine hsl _ _ _ _ 1 (by omega) d_Law_law_253 ?_
  refine r_aload_n X d_Law_law_254 (by rfl) ?_
  refine r_iload_n X d_Law_law_255 (by rfl) ?_
  refine r_iconst X (x := (nI 2)) d_Law_law_256 (by decide) ?_
  refine r_iaddN X d_Law_law_257 ?_
  refine hsl _ _ _ _ 2 (by omega) d_Law_law_258 ?_
  refine r_aload_n X d_Law_law_259 (by rfl) ?_
  refine r_iload_n X d_Law_law_260 (by rfl) ?_
  refine r_iconst X (x := (nI 3)) d_Law_law_261 (by decide) ?_
  refine r_iaddN X d_Law_law_262 ?_
  refine hsl _ _ _ _ 3 (by omega) d_Law_law_263 ?_
  refine r_cVi X lv_Law_30 (m_pole hM I1) hMM (by decide) rfl (Nat.le_of_ble_eq_true rfl) d_Law_law_264 rfl (fun S2 r2 h2 => ?_)
  obtain ⟨V2, o2, I2, x2⟩ := h2
  obtain ⟨e1, e2⟩ := f_pole o1 o2
  subst e1
  subst e2
  have hg2 := k_pole hg o1
  have R2 : Rep S2 B V1 := R1.ex x2 (fun a h1 h2 => by omega)
  exact r_icmp_eq X d_Law_law_267 (tgt := 764) (by decide) (fun _ => next _ _ hg2 R2 I2) (fun hc => absurd rfl hc)
set_option maxHeartbeats 4000000 in
set_option maxRecDepth 100000 in
theorem lc_add (X : Cx (mkE l D cI cT) G "TelescopeDeskLaw" b_Law_law 4 8 J) (hD : isD G cT B) (hM : isM G M) (hBM : B + 58 ≤ M) (hsl : Sld J b i y) (hg : gV V) (hR : Rep S B V) (hI : MI S M V) (next : ∀ S2 V2, gV V2 → Rep S2 B V2 → MI S2 M V2 → J S2 764 [some (.ref b), some (.ref B), some (.ref M), some (.int (nI i))] []) : J S 272 [some (.ref b), some (.ref B), some (.ref M), some (.int (nI i))] [] := by
  have hB := hD.1
  have hMM := hM.1
  refine r_aload_n X d_Law_law_272 (by rfl) ?_
  refine r_aload_n X d_Law_law_273 (by rfl) ?_
  refine r_iload_n X d_Law_law_274 (by rfl) ?_
  refine r_iconst X (x := (nI 1)) d_Law_law_275 (by decide) ?_
  refine r_iaddN X d_Law_law_276 ?_
  refine hsl _ _ _ _ 1 (by omega) d_Law_law_277 ?_
  refine r_aload_n X d_Law_law_278 (by rfl) ?_
  refine r_iload_n X d_Law_law_279 (by rfl) ?_
  refine r_iconst X (x := (nI 2)) d_Law_law_280 (by decide) ?_
  refine r_iaddN X d_Law_law_281 ?_
  refine hsl _ _ _ _ 2 (by omega) d_Law_law_282 ?_
  refine r_aload_n X d_Law_law_283 (by rfl) ?_
  refine r_iload_n X d_Law_law_284 (by rfl) ?_
  refine r_iconst X (x := (nI 3)) d_Law_law_285 (by decide) ?_
  refine r_iaddN X d_Law_law_286 ?_
  refine hsl _ _ _ _ 3 (by omega) d_Law_law_287 ?_
  refine r_cVi X lv_Law_31 (c_add hD hR hg.1) hB (by decide) rfl (Nat.le_of_ble_eq_true rfl) d_Law_law_288 rfl (fun S1 r1 h1 => ?_)
  obtain ⟨V1, o1, R1, x1⟩ := h1
  have I1 : MI S1 M V := hI.ex x1 (fun a h1 h2 => by omega)
  refine r_aload_n X d_Law_law_291 (by rfl) ?_
  refine r_aload_n X d_Law_law_292 (by rfl) ?_
  refine r_iload_n X d_Law_law_293 (by rfl) ?_
  refine r_iconst X (x := (nI 1)) d_Law_law_294 (by decide) ?_
  refine r_iaddN X d_Law_law_295 ?_
  refine hsl _ _ _ _ 1 (by omega) d_Law_law_296 ?_
  refine r_aload_n X d_Law_law_297 (by rfl) ?_
  refine r_iload_n X d_Law_law_298 (by rfl) ?_
  refine r_iconst X (x := (nI 2)) d_Law_law_299 (by decide) ?_
  refine r_iaddN X d_Law_law_300 ?_
  refine hsl _ _ _ _ 2 (by omega) d_Law_law_301 ?_
  refine r_aload_n X d_Law_law_302 (by rfl) ?_
  refine r_iload_n X d_Law_law_303 (by rfl) ?_
  refine r_iconst X (x := (nI 3)) d_Law_law_304 (by decide) ?_
  refine r_iaddN X d_Law_law_305 ?_
  refine hsl _ _ _ _ 3 (by omega) d_Law_law_306 ?_
  refine r_cVi X lv_Law_34 (m_add hM I1 hg.1) hMM (by decide) rfl (Nat.le_of_ble_eq_true rfl) d_Law_law_307 rfl (fun S2 r2 h2 => ?_)
  obtain ⟨V2, o2, I2, x2⟩ := h2
  obtain ⟨e1, e2⟩ := f_add o1 o2
  subst e1
  subst e2
  have hg2 := k_add hg o1
  have R2 : Rep S2 B V1 := R1.ex x2 (fun a h1 h2 => by omega)
  exact r_icmp_eq X d_Law_law_310 (tgt := 764) (by decide) (fun _ => next _ _ hg2 R2 I2) (fun hc => absurd rfl hc)
set_option maxHeartbeats 4000000 in
set_option maxRecDepth 100000 in
theorem lc_mul (X : Cx (mkE l D cI cT) G "TelescopeDeskLaw" b_Law_law 4 8 J) (hD : isD G cT B) (hM : isM G M) (hBM : B + 58 ≤ M) (hsl : Sld J b i y) (hg : gV V) (hR : Rep S B V) (hI : MI S M V) (next : ∀ S2 V2, gV V2 → Rep S2 B V2 → MI S2 M V2 → J S2 764 [some (.ref b), some (.ref B), some (.ref M), some (.int (nI i))] []) : J S 315 [some (.ref b), some (.ref B), some (.ref M), some (.int (nI i))] [] := by
  have hB := hD.1
  have hMM := hM.1
  refine r_aload_n X d_Law_law_315 (by rfl) ?_
  refine r_aload_n X d_Law_law_316 (by rfl) ?_
  refine r_iload_n X d_Law_law_317 (by rfl) ?_
  refine r_iconst X (x := (nI 1)) d_Law_law_318 (by decide) ?_
  refine r_iaddN X d_Law_law_319 ?_
  refine hsl _ _ _ _ 1 (by omega) d_Law_law_320 ?_
  refine r_aload_n X d_Law_law_321 (by rfl) ?_
  refine r_iload_n X d_Law_law_322 (by rfl) ?_
  refine r_iconst X (x := (nI 2)) d_Law_law_323 (by decide) ?_
  refine r_iaddN X d_Law_law_324 ?_
  refine hsl _ _ _ _ 2 (by omega) d_Law_law_325 ?_
  refine r_aload_n X d_Law_law_326 (by rfl) ?_
  refine r_iload_n X d_Law_law_327 (by rfl) ?_
  refine r_iconst X (x := (nI 3)) d_Law_law_328 (by decide) ?_
  refine r_iaddN X d_Law_law_329 ?_
  refine hsl _ _ _ _ 3 (by omega) d_Law_law_330 ?_
  refine r_cVi X lv_Law_35 (c_multiply hD hR hg.1) hB (by decide) rfl (Nat.le_of_ble_eq_true rfl) d_Law_law_331 rfl (fun S1 r1 h1 => ?_)
  obtain ⟨V1, o1, R1, x1⟩ := h1
  have I1 : MI S1 M V := hI.ex x1 (fun a h1 h2 => by omega)
  refine r_aload_n X d_Law_law_334 (by rfl) ?_
  refine r_aload_n X d_Law_law_335 (by rfl) ?_
  refine r_iload_n X d_Law_law_336 (by rfl) ?_
  refine r_iconst X (x := (nI 1)) d_Law_law_337 (by decide) ?_
  refine r_iaddN X d_Law_law_338 ?_
  refine hsl _ _ _ _ 1 (by omega) d_Law_law_339 ?_
  refine r_aload_n X d_Law_law_340 (by rfl) ?_
  refine r_iload_n X d_Law_law_341 (by rfl) ?_
  refine r_iconst X (x := (nI 2)) d_Law_law_342 (by decide) ?_
  refine r_iaddN X d_Law_law_343 ?_
  refine hsl _ _ _ _ 2 (by omega) d_Law_law_344 ?_
  refine r_aload_n X d_Law_law_345 (by rfl) ?_
  refine r_iload_n X d_Law_law_346 (by rfl) ?_
  refine r_iconst X (x := (nI 3)) d_Law_law_347 (by decide) ?_
  refine r_iaddN X d_Law_law_348 ?_
  refine hsl _ _ _ _ 3 (by omega) d_Law_law_349 ?_
  refine r_cVi X lv_Law_38 (m_multiply hM I1 hg.1) hMM (by decide) rfl (Nat.le_of_ble_eq_true rfl) d_Law_law_350 rfl (fun S2 r2 h2 => ?_)
  obtain ⟨V2, o2, I2, x2⟩ := h2
  obtain ⟨e1, e2⟩ := f_mul o1 o2
  subst e1
  subst e2
  have hg2 := k_mul hg o1
  have R2 : Rep S2 B V1 := R1.ex x2 (fun a h1 h2 => by omega)
  exact r_icmp_eq X d_Law_law_353 (tgt := 764) (by decide) (fun _ => next _ _ hg2 R2 I2) (fun hc => absurd rfl hc)
set_option maxHeartbeats 4000000 in
set_option maxRecDepth 100000 in
theorem lc_shift (X : Cx (mkE l D cI cT) G "TelescopeDeskLaw" b_Law_law 4 8 J) (hD : isD G cT B) (hM : isM G M) (hBM : B + 58 ≤ M) (hsl : Sld J b i y) (hg : gV V) (hR : Rep S B V) (hI : MI S M V) (next : ∀ S2 V2, gV V2 → Rep S2 B V2 → MI S2 M V2 → J S2 764 [some (.ref b), some (.ref B), some (.ref M), some (.int (nI i))] []) : J S 358 [some (.ref b), some (.ref B), some (.ref M), some (.int (nI i))] [] := by
  have hB := hD.1
  have hMM := hM.1
  refine r_aload_n X d_Law_law_358 (by rfl) ?_
  refine r_aload_n X d_Law_law_359 (by rfl) ?_
  refine r_iload_n X d_Law_law_360 (by rfl) ?_
  refine r_iconst X (x := (nI 1)) d_Law_law_361 (by decide) ?_
  refine r_iaddN X d_Law_law_362 ?_
  refine hsl _ _ _ _ 1 (by omega) d_Law_law_363 ?_
  refine r_aload_n X d_Law_law_364 (by rfl) ?_
  refine r_iload_n X d_Law_law_365 (by rfl) ?_
  refine r_iconst X (x := (nI 2)) d_Law_law_366 (by decide) ?_
  refine r_iaddN X d_Law_law_367 ?_
  refine hsl _ _ _ _ 2 (by omega) d_Law_law_368 ?_
  refine r_cVi X lv_Law_39 (c_shift hD hR hg.1) hB (by decide) rfl (Nat.le_of_ble_eq_true rfl) d_Law_law_369 rfl (fun S1 r1 h1 => ?_)
  obtain ⟨V1, o1, R1, x1⟩ := h1
  have I1 : MI S1 M V := hI.ex x1 (fun a h1 h2 => by omega)
  refine r_aload_n X d_Law_law_372 (by rfl) ?_
  refine r_aload_n X d_Law_law_373 (by rfl) ?_
  refine r_iload_n X d_Law_law_374 (by rfl) ?_
  refine r_iconst X (x := (nI 1)) d_Law_law_375 (by decide) ?_
  refine r_iaddN X d_Law_law_376 ?_
  refine hsl _ _ _ _ 1 (by omega) d_Law_law_377 ?_
  refine r_aload_n X d_Law_law_378 (by rfl) ?_
  refine r_iload_n X d_Law_law_379 (by rfl) ?_
  refine r_iconst X (x := (nI 2)) d_Law_law_380 (by decide) ?_
  refine r_iaddN X d_Law_law_381 ?_
  refine hsl _ _ _ _ 2 (by omega) d_Law_law_382 ?_
  refine r_cVi X lv_Law_42 (m_shift hM I1 hg.1 hg.2) hMM (by decide) rfl (Nat.le_of_ble_eq_true rfl) d_Law_law_383 rfl (fun S2 r2 h2 => ?_)
  obtain ⟨V2, o2, I2, x2⟩ := h2
  obtain ⟨e1, e2⟩ := f_shift o1 o2
  subst e1
  subst e2
  have hg2 := k_shift hg o1
  have R2 : Rep S2 B V1 := R1.ex x2 (fun a h1 h2 => by omega)
  exact r_icmp_eq X d_Law_law_386 (tgt := 764) (by decide) (fun _ => next _ _ hg2 R2 I2) (fun hc => absurd rfl hc)
set_option maxHeartbeats 4000000 in
set_option maxRecDepth 100000 in
theorem lc_diff (X : Cx (mkE l D cI cT) G "TelescopeDeskLaw" b_Law_law 4 8 J) (hD : isD G cT B) (hM : isM G M) (hBM : B + 58 ≤ M) (hsl : Sld J b i y) (hg : gV V) (hR : Rep S B V) (hI : MI S M V) (next : ∀ S2 V2, gV V2 → Rep S2 B V2 → MI S2 M V2 → J S2 764 [some (.ref b), some (.ref B), some (.ref M), some (.int (nI i))] []) : J S 391 [some (.ref b), some (.ref B), some (.ref M), some (.int (nI i))] [] := by
  have hB := hD.1
  have hMM := hM.1
  refine r_aload_n X d_Law_law_391 (by rfl) ?_
  refine r_aload_n X d_Law_law_392 (by rfl) ?_
  refine r_iload_n X d_Law_law_393 (by rfl) ?_
  refine r_iconst X (x := (nI 1)) d_Law_law_394 (by decide) ?_
  refine r_iaddN X d_Law_law_395 ?_
  refine hsl _ _ _ _ 1 (by omega) d_Law_law_396 ?_
  refine r_aload_n X d_Law_law_397 (by rfl) ?_
  refine r_iload_n X d_Law_law_398 (by rfl) ?_
  refine r_iconst X (x := (nI 2)) d_Law_law_399 (by decide) ?_
  refine r_iaddN X d_Law_law_400 ?_
  refine hsl _ _ _ _ 2 (by omega) d_Law_law_401 ?_
  refine r_cVi X lv_Law_43 (c_difference hD hR hg.1) hB (by decide) rfl (Nat.le_of_ble_eq_true rfl) d_Law_law_402 rfl (fun S1 r1 h1 => ?_)
  obtain ⟨V1, o1, R1, x1⟩ := h1
  have I1 : MI S1 M V := hI.ex x1 (fun a h1 h2 => by omega)
  refine r_aload_n X d_Law_law_405 (by rfl) ?_
  refine r_aload_n X d_Law_law_406 (by rfl) ?_
  refine r_iload_n X d_Law_law_407 (by rfl) ?_
  refine r_iconst X (x := (nI 1)) d_Law_law_408 (by decide) ?_
  refine r_iaddN X d_Law_law_409 ?_
  refine hsl _ _ _ _ 1 (by omega) d_Law_law_410 ?_
  refine r_aload_n X d_Law_law_411 (by rfl) ?_
  refine r_iload_n X d_Law_law_412 (by rfl) ?_
  refine r_iconst X (x := (nI 2)) d_Law_law_413 (by decide) ?_
  refine r_iaddN X d_Law_law_414 ?_
  refine hsl _ _ _ _ 2 (by omega) d_Law_law_415 ?_
  refine r_cVi X lv_Law_46 (m_difference hM I1 hg.1) hMM (by decide) rfl (Nat.le_of_ble_eq_true rfl) d_Law_law_416 rfl (fun S2 r2 h2 => ?_)
  obtain ⟨V2, o2, I2, x2⟩ := h2
  obtain ⟨e1, e2⟩ := f_diff o1 o2
  subst e1
  subst e2
  have hg2 := k_diff hg o1
  have R2 : Rep S2 B V1 := R1.ex x2 (fun a h1 h2 => by omega)
  exact r_icmp_eq X d_Law_law_419 (tgt := 764) (by decide) (fun _ => next _ _ hg2 R2 I2) (fun hc => absurd rfl hc)
set_option maxHeartbeats 4000000 in
set_option maxRecDepth 100000 in
theorem lc_tel (X : Cx (mkE l D cI cT) G "TelescopeDeskLaw" b_Law_law 4 8 J) (hD : isD G cT B) (hM : isM G M) (hBM : B + 58 ≤ M) (hsl : Sld J b i y) (hg : gV V) (hR : Rep S B V) (hI : MI S M V) (next : ∀ S2 V2, gV V2 → Rep S2 B V2 → MI S2 M V2 → J S2 764 [some (.ref b), some (.ref B), some (.ref M), some (.int (nI i))] []) : J S 424 [some (.ref b), some (.ref B), some (.ref M), some (.int (nI i))] [] := by
  have hB := hD.1
  have hMM := hM.1
  refine r_aload_n X d_Law_law_424 (by rfl) ?_
  refine r_aload_n X d_Law_law_425 (by rfl) ?_
  refine r_iload_n X d_Law_law_426 (by rfl) ?_
  refine r_iconst X (x := (nI 1)) d_Law_law_427 (by decide) ?_
  refine r_iaddN X d_Law_law_428 ?_
  refine hsl _ _ _ _ 1 (by omega) d_Law_law_429 ?_
  refine r_aload_n X d_Law_law_430 (by rfl) ?_
  refine r_iload_n X d_Law_law_431 (by rfl) ?_
  refine r_iconst X (x := (nI 2)) d_Law_law_432 (by decide) ?_
  refine r_iaddN X d_Law_law_433 ?_
  refine hsl _ _ _ _ 2 (by omega) d_Law_law_434 ?_
  refine r_aload_n X d_Law_law_435 (by rfl) ?_
  refine r_iload_n X d_Law_law_436 (by rfl) ?_
  refine r_iconst X (x := (nI 3)) d_Law_law_437 (by decide) ?_
  refine r_iaddN X d_Law_law_438 ?_
  refine hsl _ _ _ _ 3 (by omega) d_Law_law_439 ?_
  refine r_cVi X lv_Law_47 (c_telescope hD hR hg.1) hB (by decide) rfl (Nat.le_of_ble_eq_true rfl) d_Law_law_440 rfl (fun S1 r1 h1 => ?_)
  obtain ⟨V1, o1, R1, x1⟩ := h1
  have I1 : MI S1 M V := hI.ex x1 (fun a h1 h2 => by omega)
  refine r_aload_n X d_Law_law_443 (by rfl) ?_
  refine r_aload_n X d_Law_law_444 (by rfl) ?_
  refine r_iload_n X d_Law_law_445 (by rfl) ?_
  refine r_iconst X (x := (nI 1)) d_Law_law_446 (by decide) ?_
  refine r_iaddN X d_Law_law_447 ?_
  refine hsl _ _ _ _ 1 (by omega) d_Law_law_448 ?_
  refine r_aload_n X d_Law_law_449 (by rfl) ?_
  refine r_iload_n X d_Law_law_450 (by rfl) ?_
  refine r_iconst X (x := (nI 2)) d_Law_law_451 (by decide) ?_
  refine r_iaddN X d_Law_law_452 ?_
  refine hsl _ _ _ _ 2 (by omega) d_Law_law_453 ?_
  refine r_aload_n X d_Law_law_454 (by rfl) ?_
  refine r_iload_n X d_Law_law_455 (by rfl) ?_
  refine r_iconst X (x := (nI 3)) d_Law_law_456 (by decide) ?_
  refine r_iaddN X d_Law_law_457 ?_
  refine hsl _ _ _ _ 3 (by omega) d_Law_law_458 ?_
  refine r_cVi X lv_Law_50 (m_telescope hM I1 hg.1) hMM (by decide) rfl (Nat.le_of_ble_eq_true rfl) d_Law_law_459 rfl (fun S2 r2 h2 => ?_)
  obtain ⟨V2, o2, I2, x2⟩ := h2
  obtain ⟨e1, e2⟩ := f_tel o1 o2
  subst e1
  subst e2
  have hg2 := k_tel hg o1
  have R2 : Rep S2 B V1 := R1.ex x2 (fun a h1 h2 => by omega)
  exact r_icmp_eq X d_Law_law_462 (tgt := 764) (by decide) (fun _ => next _ _ hg2 R2 I2) (fun hc => absurd rfl hc)
set_option maxHeartbeats 4000000 in
set_option maxRecDepth 100000 in
theorem lc_chk (X : Cx (mkE l D cI cT) G "TelescopeDeskLaw" b_Law_law 4 8 J) (hD : isD G cT B) (hM : isM G M) (hBM : B + 58 ≤ M) (hsl : Sld J b i y) (hg : gV V) (hR : Rep S B V) (hI : MI S M V) (next : ∀ S2 V2, gV V2 → Rep S2 B V2 → MI S2 M V2 → J S2 764 [some (.ref b), some (.ref B), some (.ref M), some (.int (nI i))] []) : J S 467 [some (.ref b), some (.ref B), some (.ref M), some (.int (nI i))] [] := by
  have hB := hD.1
  have hMM := hM.1
  refine r_aload_n X d_Law_law_467 (by rfl) ?_
  refine r_aload_n X d_Law_law_468 (by rfl) ?_
  refine r_iload_n X d_Law_law_469 (by rfl) ?_
  refine r_iconst X (x := (nI 1)) d_Law_law_470 (by decide) ?_
  refine r_iaddN X d_Law_law_471 ?_
  refine hsl _ _ _ _ 1 (by omega) d_Law_law_472 ?_
  refine r_aload_n X d_Law_law_473 (by rfl) ?_
  refine r_iload_n X d_Law_law_474 (by rfl) ?_
  refine r_iconst X (x := (nI 2)) d_Law_law_475 (by decide) ?_
  refine r_iaddN X d_Law_law_476 ?_
  refine hsl _ _ _ _ 2 (by omega) d_Law_law_477 ?_
  refine r_cVi X lv_Law_51 (c_check hD hR hg.1) hB (by decide) rfl (Nat.le_of_ble_eq_true rfl) d_Law_law_478 rfl (fun S1 r1 h1 => ?_)
  obtain ⟨o1, R1, x1⟩ := h1
  have I1 : MI S1 M V := hI.ex x1 (fun a h1 h2 => by omega)
  refine r_aload_n X d_Law_law_481 (by rfl) ?_
  refine r_aload_n X d_Law_law_482 (by rfl) ?_
  refine r_iload_n X d_Law_law_483 (by rfl) ?_
  refine r_iconst X (x := (nI 1)) d_Law_law_484 (by decide) ?_
  refine r_iaddN X d_Law_law_485 ?_
  refine hsl _ _ _ _ 1 (by omega) d_Law_law_486 ?_
  refine r_aload_n X d_Law_law_487 (by rfl) ?_
  refine r_iload_n X d_Law_law_488 (by rfl) ?_
  refine r_iconst X (x := (nI 2)) d_Law_law_489 (by decide) ?_
  refine r_iaddN X d_Law_law_490 ?_
  refine hsl _ _ _ _ 2 (by omega) d_Law_law_491 ?_
  refine r_cVi X lv_Law_55 (m_check hM I1 hg.1) hMM (by decide) rfl (Nat.le_of_ble_eq_true rfl) d_Law_law_492 rfl (fun S2 r2 h2 => ?_)
  obtain ⟨o2, I2, x2⟩ := h2
  have R2 : Rep S2 B V := R1.ex x2 (fun a h1 h2 => by omega)
  have e1 := f_chk o1 o2
  subst e1
  have hg2 := hg
  exact r_icmp_eq X d_Law_law_495 (tgt := 764) (by decide) (fun _ => next _ _ hg2 R2 I2) (fun hc => absurd rfl hc)
set_option maxHeartbeats 4000000 in
set_option maxRecDepth 100000 in
theorem lc_same (X : Cx (mkE l D cI cT) G "TelescopeDeskLaw" b_Law_law 4 8 J) (hD : isD G cT B) (hM : isM G M) (hBM : B + 58 ≤ M) (hsl : Sld J b i y) (hg : gV V) (hR : Rep S B V) (hI : MI S M V) (next : ∀ S2 V2, gV V2 → Rep S2 B V2 → MI S2 M V2 → J S2 764 [some (.ref b), some (.ref B), some (.ref M), some (.int (nI i))] []) : J S 500 [some (.ref b), some (.ref B), some (.ref M), some (.int (nI i))] [] := by
  have hB := hD.1
  have hMM := hM.1
  refine r_aload_n X d_Law_law_500 (by rfl) ?_
  refine r_aload_n X d_Law_law_501 (by rfl) ?_
  refine r_iload_n X d_Law_law_502 (by rfl) ?_
  refine r_iconst X (x := (nI 1)) d_Law_law_503 (by decide) ?_
  refine r_iaddN X d_Law_law_504 ?_
  refine hsl _ _ _ _ 1 (by omega) d_Law_law_505 ?_
  refine r_aload_n X d_Law_law_506 (by rfl) ?_
  refine r_iload_n X d_Law_law_507 (by rfl) ?_
  refine r_iconst X (x := (nI 2)) d_Law_law_508 (by decide) ?_
  refine r_iaddN X d_Law_law_509 ?_
  refine hsl _ _ _ _ 2 (by omega) d_Law_law_510 ?_
  refine r_cVi X lv_Law_56 (c_same hD hR hg.1) hB (by decide) rfl (Nat.le_of_ble_eq_true rfl) d_Law_law_511 rfl (fun S1 r1 h1 => ?_)
  obtain ⟨o1, hxs⟩ := h1
  replace hxs := hxs.symm
  subst hxs
  have I1 := hI
  have R1 := hR
  refine r_aload_n X d_Law_law_514 (by rfl) ?_
  refine r_aload_n X d_Law_law_515 (by rfl) ?_
  refine r_iload_n X d_Law_law_516 (by rfl) ?_
  refine r_iconst X (x := (nI 1)) d_Law_law_517 (by decide) ?_
  refine r_iaddN X d_Law_law_518 ?_
  refine hsl _ _ _ _ 1 (by omega) d_Law_law_519 ?_
  refine r_aload_n X d_Law_law_520 (by rfl) ?_
  refine r_iload_n X d_Law_law_521 (by rfl) ?_
  refine r_iconst X (x := (nI 2)) d_Law_law_522 (by decide) ?_
  refine r_iaddN X d_Law_law_523 ?_
  refine hsl _ _ _ _ 2 (by omega) d_Law_law_524 ?_
  refine r_cVi X lv_Law_59 (m_same hM I1 hg.1) hMM (by decide) rfl (Nat.le_of_ble_eq_true rfl) d_Law_law_525 rfl (fun S2 r2 h2 => ?_)
  obtain ⟨o2, hxs⟩ := h2
  replace hxs := hxs.symm
  subst hxs
  have I2 := I1
  have R2 := R1
  have e1 := f_same o1 o2
  subst e1
  have hg2 := hg
  exact r_icmp_eq X d_Law_law_528 (tgt := 764) (by decide) (fun _ => next _ _ hg2 R2 I2) (fun hc => absurd rfl hc)
set_option maxHeartbeats 4000000 in
set_option maxRecDepth 100000 in
theorem lc_ratio (X : Cx (mkE l D cI cT) G "TelescopeDeskLaw" b_Law_law 4 8 J) (hD : isD G cT B) (hM : isM G M) (hBM : B + 58 ≤ M) (hsl : Sld J b i y) (hg : gV V) (hR : Rep S B V) (hI : MI S M V) (next : ∀ S2 V2, gV V2 → Rep S2 B V2 → MI S2 M V2 → J S2 764 [some (.ref b), some (.ref B), some (.ref M), some (.int (nI i))] []) : J S 533 [some (.ref b), some (.ref B), some (.ref M), some (.int (nI i))] [] := by
  have hB := hD.1
  have hMM := hM.1
  refine r_aload_n X d_Law_law_533 (by rfl) ?_
  refine r_aload_n X d_Law_law_534 (by rfl) ?_
  refine r_iload_n X d_Law_law_535 (by rfl) ?_
  refine r_iconst X (x := (nI 1)) d_Law_law_536 (by decide) ?_
  refine r_iaddN X d_Law_law_537 ?_
  refine hsl _ _ _ _ 1 (by omega) d_Law_law_538 ?_
  refine r_cVi X lv_Law_60 (c_ratio hD hR) hB (by decide) rfl (Nat.le_of_ble_eq_true rfl) d_Law_law_539 rfl (fun S1 r1 h1 => ?_)
  obtain ⟨o1, hxs⟩ := h1
  replace hxs := hxs.symm
  subst hxs
  have I1 := hI
  have R1 := hR
  refine r_aload_n X d_Law_law_542 (by rfl) ?_
  refine r_aload_n X d_Law_law_543 (by rfl) ?_
  refine r_iload_n X d_Law_law_544 (by rfl) ?_
  refine r_iconst X (x := (nI 1)) d_Law_law_545 (by decide) ?_
  refine r_iaddN X d_Law_law_546 ?_
  refine hsl _ _ _ _ 1 (by omega) d_Law_law_547 ?_
  refine r_cVi X lv_Law_64 (m_ratio hM I1) hMM (by decide) rfl (Nat.le_of_ble_eq_true rfl) d_Law_law_548 rfl (fun S2 r2 h2 => ?_)
  obtain ⟨o2, hxs⟩ := h2
  replace hxs := hxs.symm
  subst hxs
  have I2 := I1
  have R2 := R1
  have e1 := f_ratio o1 o2
  subst e1
  have hg2 := hg
  exact r_icmp_eq X d_Law_law_551 (tgt := 764) (by decide) (fun _ => next _ _ hg2 R2 I2) (fun hc => absurd rfl hc)
set_option maxHeartbeats 4000000 in
set_option maxRecDepth 100000 in
theorem lc_deg (X : Cx (mkE l D cI cT) G "TelescopeDeskLaw" b_Law_law 4 8 J) (hD : isD G cT B) (hM : isM G M) (hBM : B + 58 ≤ M) (hsl : Sld J b i y) (hg : gV V) (hR : Rep S B V) (hI : MI S M V) (next : ∀ S2 V2, gV V2 → Rep S2 B V2 → MI S2 M V2 → J S2 764 [some (.ref b), some (.ref B), some (.ref M), some (.int (nI i))] []) : J S 556 [some (.ref b), some (.ref B), some (.ref M), some (.int (nI i))] [] := by
  have hB := hD.1
  have hMM := hM.1
  refine r_aload_n X d_Law_law_556 (by rfl) ?_
  refine r_aload_n X d_Law_law_557 (by rfl) ?_
  refine r_iload_n X d_Law_law_558 (by rfl) ?_
  refine r_iconst X (x := (nI 1)) d_Law_law_559 (by decide) ?_
  refine r_iaddN X d_Law_law_560 ?_
  refine hsl _ _ _ _ 1 (by omega) d_Law_law_561 ?_
  refine r_cVi X lv_Law_65 (c_degree hD hR) hB (by decide) rfl (Nat.le_of_ble_eq_true rfl) d_Law_law_562 rfl (fun S1 r1 h1 => ?_)
  obtain ⟨o1, hxs⟩ := h1
  replace hxs := hxs.symm
  subst hxs
  have I1 := hI
  have R1 := hR
  refine r_aload_n X d_Law_law_565 (by rfl) ?_
  refine r_aload_n X d_Law_law_566 (by rfl) ?_
  refine r_iload_n X d_Law_law_567 (by rfl) ?_
  refine r_iconst X (x := (nI 1)) d_Law_law_568 (by decide) ?_
  refine r_iaddN X d_Law_law_569 ?_
  refine hsl _ _ _ _ 1 (by omega) d_Law_law_570 ?_
  refine r_cVi X lv_Law_68 (m_degree hM I1 hg.1) hMM (by decide) rfl (Nat.le_of_ble_eq_true rfl) d_Law_law_571 rfl (fun S2 r2 h2 => ?_)
  obtain ⟨o2, I2, x2⟩ := h2
  have R2 : Rep S2 B V := R1.ex x2 (fun a h1 h2 => by omega)
  have e1 := f_deg o1 o2
  subst e1
  have hg2 := hg
  exact r_icmp_eq X d_Law_law_574 (tgt := 764) (by decide) (fun _ => next _ _ hg2 R2 I2) (fun hc => absurd rfl hc)
set_option maxHeartbeats 4000000 in
set_option maxRecDepth 100000 in
theorem lc_coef (X : Cx (mkE l D cI cT) G "TelescopeDeskLaw" b_Law_law 4 8 J) (hD : isD G cT B) (hM : isM G M) (hBM : B + 58 ≤ M) (hsl : Sld J b i y) (hg : gV V) (hR : Rep S B V) (hI : MI S M V) (next : ∀ S2 V2, gV V2 → Rep S2 B V2 → MI S2 M V2 → J S2 764 [some (.ref b), some (.ref B), some (.ref M), some (.int (nI i))] []) : J S 579 [some (.ref b), some (.ref B), some (.ref M), some (.int (nI i))] [] := by
  have hB := hD.1
  have hMM := hM.1
  refine r_aload_n X d_Law_law_579 (by rfl) ?_
  refine r_aload_n X d_Law_law_580 (by rfl) ?_
  refine r_iload_n X d_Law_law_581 (by rfl) ?_
  refine r_iconst X (x := (nI 1)) d_Law_law_582 (by decide) ?_
  refine r_iaddN X d_Law_law_583 ?_
  refine hsl _ _ _ _ 1 (by omega) d_Law_law_584 ?_
  refine r_aload_n X d_Law_law_585 (by rfl) ?_
  refine r_iload_n X d_Law_law_586 (by rfl) ?_
  refine r_iconst X (x := (nI 2)) d_Law_law_587 (by decide) ?_
  refine r_iaddN X d_Law_law_588 ?_
  refine hsl _ _ _ _ 2 (by omega) d_Law_law_589 ?_
  refine r_cVi X lv_Law_69 (c_coefficient hD hR) hB (by decide) rfl (Nat.le_of_ble_eq_true rfl) d_Law_law_590 rfl (fun S1 r1 h1 => ?_)
  obtain ⟨o1, hxs⟩ := h1
  replace hxs := hxs.symm
  subst hxs
  have I1 := hI
  have R1 := hR
  refine r_aload_n X d_Law_law_593 (by rfl) ?_
  refine r_aload_n X d_Law_law_594 (by rfl) ?_
  refine r_iload_n X d_Law_law_595 (by rfl) ?_
  refine r_iconst X (x := (nI 1)) d_Law_law_596 (by decide) ?_
  refine r_iaddN X d_Law_law_597 ?_
  refine hsl _ _ _ _ 1 (by omega) d_Law_law_598 ?_
  refine r_aload_n X d_Law_law_599 (by rfl) ?_
  refine r_iload_n X d_Law_law_600 (by rfl) ?_
  refine r_iconst X (x := (nI 2)) d_Law_law_601 (by decide) ?_
  refine r_iaddN X d_Law_law_602 ?_
  refine hsl _ _ _ _ 2 (by omega) d_Law_law_603 ?_
  refine r_cVi X lv_Law_72 (m_coefficient hM I1) hMM (by decide) rfl (Nat.le_of_ble_eq_true rfl) d_Law_law_604 rfl (fun S2 r2 h2 => ?_)
  obtain ⟨o2, hxs⟩ := h2
  replace hxs := hxs.symm
  subst hxs
  have I2 := I1
  have R2 := R1
  have e1 := f_coef o1 o2
  subst e1
  have hg2 := hg
  exact r_icmp_eq X d_Law_law_607 (tgt := 764) (by decide) (fun _ => next _ _ hg2 R2 I2) (fun hc => absurd rfl hc)
set_option maxHeartbeats 4000000 in
set_option maxRecDepth 100000 in
theorem lc_exp (X : Cx (mkE l D cI cT) G "TelescopeDeskLaw" b_Law_law 4 8 J) (hD : isD G cT B) (hM : isM G M) (hBM : B + 58 ≤ M) (hsl : Sld J b i y) (hg : gV V) (hR : Rep S B V) (hI : MI S M V) (next : ∀ S2 V2, gV V2 → Rep S2 B V2 → MI S2 M V2 → J S2 764 [some (.ref b), some (.ref B), some (.ref M), some (.int (nI i))] []) : J S 612 [some (.ref b), some (.ref B), some (.ref M), some (.int (nI i))] [] := by
  have hB := hD.1
  have hMM := hM.1
  refine r_aload_n X d_Law_law_612 (by rfl) ?_
  refine r_aload_n X d_Law_law_613 (by rfl) ?_
  refine r_iload_n X d_Law_law_614 (by rfl) ?_
  refine r_iconst X (x := (nI 1)) d_Law_law_615 (by decide) ?_
  refine r_iaddN X d_Law_law_616 ?_
  refine hsl _ _ _ _ 1 (by omega) d_Law_law_617 ?_
  refine r_aload_n X d_Law_law_618 (by rfl) ?_
  refine r_iload_n X d_Law_law_619 (by rfl) ?_
  refine r_iconst X (x := (nI 2)) d_Law_law_620 (by decide) ?_
  refine r_iaddN X d_Law_law_621 ?_
  refine hsl _ _ _ _ 2 (by omega) d_Law_law_622 ?_
  refine r_cVi X lv_Law_73 (c_exponent hD hR) hB (by decide) rfl (Nat.le_of_ble_eq_true rfl) d_Law_law_623 rfl (fun S1 r1 h1 => ?_)
  obtain ⟨o1, hxs⟩ := h1
  replace hxs := hxs.symm
  subst hxs
  have I1 := hI
  have R1 := hR
  refine r_aload_n X d_Law_law_626 (by rfl) ?_
  refine r_aload_n X d_Law_law_627 (by rfl) ?_
  refine r_iload_n X d_Law_law_628 (by rfl) ?_
  refine r_iconst X (x := (nI 1)) d_Law_law_629 (by decide) ?_
  refine r_iaddN X d_Law_law_630 ?_
  refine hsl _ _ _ _ 1 (by omega) d_Law_law_631 ?_
  refine r_aload_n X d_Law_law_632 (by rfl) ?_
  refine r_iload_n X d_Law_law_633 (by rfl) ?_
  refine r_iconst X (x := (nI 2)) d_Law_law_634 (by decide) ?_
  refine r_iaddN X d_Law_law_635 ?_
  refine hsl _ _ _ _ 2 (by omega) d_Law_law_636 ?_
  refine r_cVi X lv_Law_76 (m_exponent hM I1) hMM (by decide) rfl (Nat.le_of_ble_eq_true rfl) d_Law_law_637 rfl (fun S2 r2 h2 => ?_)
  obtain ⟨o2, hxs⟩ := h2
  replace hxs := hxs.symm
  subst hxs
  have I2 := I1
  have R2 := R1
  have e1 := f_exp o1 o2
  subst e1
  have hg2 := hg
  exact r_icmp_eq X d_Law_law_640 (tgt := 764) (by decide) (fun _ => next _ _ hg2 R2 I2) (fun hc => absurd rfl hc)
set_option maxHeartbeats 4000000 in
set_option maxRecDepth 100000 in
theorem lc_wgt (X : Cx (mkE l D cI cT) G "TelescopeDeskLaw" b_Law_law 4 8 J) (hD : isD G cT B) (hM : isM G M) (hBM : B + 58 ≤ M) (hsl : Sld J b i y) (hg : gV V) (hR : Rep S B V) (hI : MI S M V) (next : ∀ S2 V2, gV V2 → Rep S2 B V2 → MI S2 M V2 → J S2 764 [some (.ref b), some (.ref B), some (.ref M), some (.int (nI i))] []) : J S 645 [some (.ref b), some (.ref B), some (.ref M), some (.int (nI i))] [] := by
  have hB := hD.1
  have hMM := hM.1
  refine r_aload_n X d_Law_law_645 (by rfl) ?_
  refine r_aload_n X d_Law_law_646 (by rfl) ?_
  refine r_iload_n X d_Law_law_647 (by rfl) ?_
  refine r_iconst X (x := (nI 1)) d_Law_law_648 (by decide) ?_
  refine r_iaddN X d_Law_law_649 ?_
  refine hsl _ _ _ _ 1 (by omega) d_Law_law_650 ?_
  refine r_aload_n X d_Law_law_651 (by rfl) ?_
  refine r_iload_n X d_Law_law_652 (by rfl) ?_
  refine r_iconst X (x := (nI 2)) d_Law_law_653 (by decide) ?_
  refine r_iaddN X d_Law_law_654 ?_
  refine hsl _ _ _ _ 2 (by omega) d_Law_law_655 ?_
  refine r_aload_n X d_Law_law_656 (by rfl) ?_
  refine r_iload_n X d_Law_law_657 (by rfl) ?_
  refine r_iconst X (x := (nI 3)) d_Law_law_658 (by decide) ?_
  refine r_iaddN X d_Law_law_659 ?_
  refine hsl _ _ _ _ 3 (by omega) d_Law_law_660 ?_
  refine r_cVi X lv_Law_77 (c_weight hD hR hg.1) hB (by decide) rfl (Nat.le_of_ble_eq_true rfl) d_Law_law_661 rfl (fun S1 r1 h1 => ?_)
  obtain ⟨o1, R1, x1⟩ := h1
  have I1 : MI S1 M V := hI.ex x1 (fun a h1 h2 => by omega)
  refine r_aload_n X d_Law_law_664 (by rfl) ?_
  refine r_aload_n X d_Law_law_665 (by rfl) ?_
  refine r_iload_n X d_Law_law_666 (by rfl) ?_
  refine r_iconst X (x := (nI 1)) d_Law_law_667 (by decide) ?_
  refine r_iaddN X d_Law_law_668 ?_
  refine hsl _ _ _ _ 1 (by omega) d_Law_law_669 ?_
  refine r_aload_n X d_Law_law_670 (by rfl) ?_
  refine r_iload_n X d_Law_law_671 (by rfl) ?_
  refine r_iconst X (x := (nI 2)) d_Law_law_672 (by decide) ?_
  refine r_iaddN X d_Law_law_673 ?_
  refine hsl _ _ _ _ 2 (by omega) d_Law_law_674 ?_
  refine r_aload_n X d_Law_law_675 (by rfl) ?_
  refine r_iload_n X d_Law_law_676 (by rfl) ?_
  refine r_iconst X (x := (nI 3)) d_Law_law_677 (by decide) ?_
  refine r_iaddN X d_Law_law_678 ?_
  refine hsl _ _ _ _ 3 (by omega) d_Law_law_679 ?_
  refine r_cVi X lv_Law_80 (m_weight hM I1 hg.1) hMM (by decide) rfl (Nat.le_of_ble_eq_true rfl) d_Law_law_680 rfl (fun S2 r2 h2 => ?_)
  obtain ⟨o2, I2, x2⟩ := h2
  have R2 : Rep S2 B V := R1.ex x2 (fun a h1 h2 => by omega)
  have e1 := f_wgt o1 o2
  subst e1
  have hg2 := hg
  exact r_icmp_eq X d_Law_law_683 (tgt := 764) (by decide) (fun _ => next _ _ hg2 R2 I2) (fun hc => absurd rfl hc)
set_option maxHeartbeats 4000000 in
set_option maxRecDepth 100000 in
theorem lc_val (X : Cx (mkE l D cI cT) G "TelescopeDeskLaw" b_Law_law 4 8 J) (hD : isD G cT B) (hM : isM G M) (hBM : B + 58 ≤ M) (hsl : Sld J b i y) (hg : gV V) (hR : Rep S B V) (hI : MI S M V) (next : ∀ S2 V2, gV V2 → Rep S2 B V2 → MI S2 M V2 → J S2 764 [some (.ref b), some (.ref B), some (.ref M), some (.int (nI i))] []) : J S 688 [some (.ref b), some (.ref B), some (.ref M), some (.int (nI i))] [] := by
  have hB := hD.1
  have hMM := hM.1
  refine r_aload_n X d_Law_law_688 (by rfl) ?_
  refine r_aload_n X d_Law_law_689 (by rfl) ?_
  refine r_iload_n X d_Law_law_690 (by rfl) ?_
  refine r_iconst X (x := (nI 1)) d_Law_law_691 (by decide) ?_
  refine r_iaddN X d_Law_law_692 ?_
  refine hsl _ _ _ _ 1 (by omega) d_Law_law_693 ?_
  refine r_aload_n X d_Law_law_694 (by rfl) ?_
  refine r_iload_n X d_Law_law_695 (by rfl) ?_
  refine r_iconst X (x := (nI 2)) d_Law_law_696 (by decide) ?_
  refine r_iaddN X d_Law_law_697 ?_
  refine hsl _ _ _ _ 2 (by omega) d_Law_law_698 ?_
  refine r_cVi X lv_Law_81 (c_value hD hR hg.1) hB (by decide) rfl (Nat.le_of_ble_eq_true rfl) d_Law_law_699 rfl (fun S1 r1 h1 => ?_)
  obtain ⟨o1, hxs⟩ := h1
  replace hxs := hxs.symm
  subst hxs
  have I1 := hI
  have R1 := hR
  refine r_aload_n X d_Law_law_702 (by rfl) ?_
  refine r_aload_n X d_Law_law_703 (by rfl) ?_
  refine r_iload_n X d_Law_law_704 (by rfl) ?_
  refine r_iconst X (x := (nI 1)) d_Law_law_705 (by decide) ?_
  refine r_iaddN X d_Law_law_706 ?_
  refine hsl _ _ _ _ 1 (by omega) d_Law_law_707 ?_
  refine r_aload_n X d_Law_law_708 (by rfl) ?_
  refine r_iload_n X d_Law_law_709 (by rfl) ?_
  refine r_iconst X (x := (nI 2)) d_Law_law_710 (by decide) ?_
  refine r_iaddN X d_Law_law_711 ?_
  refine hsl _ _ _ _ 2 (by omega) d_Law_law_712 ?_
  refine r_cVi X lv_Law_84 (m_value hM I1 hg.1) hMM (by decide) rfl (Nat.le_of_ble_eq_true rfl) d_Law_law_713 rfl (fun S2 r2 h2 => ?_)
  obtain ⟨o2, I2, x2⟩ := h2
  have R2 : Rep S2 B V := R1.ex x2 (fun a h1 h2 => by omega)
  have e1 := f_val o1 o2
  subst e1
  have hg2 := hg
  exact r_icmp_eq X d_Law_law_716 (tgt := 764) (by decide) (fun _ => next _ _ hg2 R2 I2) (fun hc => absurd rfl hc)
set_option maxHeartbeats 4000000 in
set_option maxRecDepth 100000 in
theorem lc_sum (X : Cx (mkE l D cI cT) G "TelescopeDeskLaw" b_Law_law 4 8 J) (hD : isD G cT B) (hM : isM G M) (hBM : B + 58 ≤ M) (hsl : Sld J b i y) (hg : gV V) (hR : Rep S B V) (hI : MI S M V) (next : ∀ S2 V2, gV V2 → Rep S2 B V2 → MI S2 M V2 → J S2 764 [some (.ref b), some (.ref B), some (.ref M), some (.int (nI i))] []) : J S 721 [some (.ref b), some (.ref B), some (.ref M), some (.int (nI i))] [] := by
  have hB := hD.1
  have hMM := hM.1
  refine r_aload_n X d_Law_law_721 (by rfl) ?_
  refine r_aload_n X d_Law_law_722 (by rfl) ?_
  refine r_iload_n X d_Law_law_723 (by rfl) ?_
  refine r_iconst X (x := (nI 1)) d_Law_law_724 (by decide) ?_
  refine r_iaddN X d_Law_law_725 ?_
  refine hsl _ _ _ _ 1 (by omega) d_Law_law_726 ?_
  refine r_aload_n X d_Law_law_727 (by rfl) ?_
  refine r_iload_n X d_Law_law_728 (by rfl) ?_
  refine r_iconst X (x := (nI 2)) d_Law_law_729 (by decide) ?_
  refine r_iaddN X d_Law_law_730 ?_
  refine hsl _ _ _ _ 2 (by omega) d_Law_law_731 ?_
  refine r_aload_n X d_Law_law_732 (by rfl) ?_
  refine r_iload_n X d_Law_law_733 (by rfl) ?_
  refine r_iconst X (x := (nI 3)) d_Law_law_734 (by decide) ?_
  refine r_iaddN X d_Law_law_735 ?_
  refine hsl _ _ _ _ 3 (by omega) d_Law_law_736 ?_
  refine r_cVi X lv_Law_85 (c_sum hD hR hg.1) hB (by decide) rfl (Nat.le_of_ble_eq_true rfl) d_Law_law_737 rfl (fun S1 r1 h1 => ?_)
  obtain ⟨o1, hxs⟩ := h1
  replace hxs := hxs.symm
  subst hxs
  have I1 := hI
  have R1 := hR
  refine r_aload_n X d_Law_law_740 (by rfl) ?_
  refine r_aload_n X d_Law_law_741 (by rfl) ?_
  refine r_iload_n X d_Law_law_742 (by rfl) ?_
  refine r_iconst X (x := (nI 1)) d_Law_law_743 (by decide) ?_
  refine r_iaddN X d_Law_law_744 ?_
  refine hsl _ _ _ _ 1 (by omega) d_Law_law_745 ?_
  refine r_aload_n X d_Law_law_746 (by rfl) ?_
  refine r_iload_n X d_Law_law_747 (by rfl) ?_
  refine r_iconst X (x := (nI 2)) d_Law_law_748 (by decide) ?_
  refine r_iaddN X d_Law_law_749 ?_
  refine hsl _ _ _ _ 2 (by omega) d_Law_law_750 ?_
  refine r_aload_n X d_Law_law_751 (by rfl) ?_
  refine r_iload_n X d_Law_law_752 (by rfl) ?_
  refine r_iconst X (x := (nI 3)) d_Law_law_753 (by decide) ?_
  refine r_iaddN X d_Law_law_754 ?_
  refine hsl _ _ _ _ 3 (by omega) d_Law_law_755 ?_
  refine r_cVi X lv_Law_88 (m_sum hM I1 hg.1) hMM (by decide) rfl (Nat.le_of_ble_eq_true rfl) d_Law_law_756 rfl (fun S2 r2 h2 => ?_)
  obtain ⟨o2, I2, x2⟩ := h2
  have R2 : Rep S2 B V := R1.ex x2 (fun a h1 h2 => by omega)
  have e1 := f_sum o1 o2
  subst e1
  have hg2 := hg
  exact r_icmp_eq X d_Law_law_759 (tgt := 764) (by decide) (fun _ => next _ _ hg2 R2 I2) (fun hc => absurd rfl hc)
end LC
