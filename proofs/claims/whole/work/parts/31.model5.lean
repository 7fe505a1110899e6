section M5
variable {l : Launch} {D : va_G} {cI cT : ClassId} {G : Gm} {S : Sg}
theorem mt_w {n b : Nat} {f : Nat → Nat} (h : okP n f) (hn : n + 1 ≤ 64) : mt 80 b f = mt 64 b f ∧ okP (n + 1) (mt 64 b f) := by
  have hz : ∀ i, n + 1 ≤ i → (f i * b + (if i = 0 then 0 else f (i - 1))) % 10007 = 0 := by
    intro i hi
    rw [h.2 i (by omega), if_neg (by omega), h.2 (i - 1) (by omega), Nat.zero_mul]
  refine ⟨?_, (mt_ok 64 b f).1, fun i hi => ?_⟩
  · funext i
    unfold mt
    by_cases h1 : i < 64
    · rw [if_pos h1, if_pos (by omega)]
    · rw [if_neg h1]
      split
      · exact hz i (by omega)
      · rfl
  · unfold mt
    split
    · exact hz i hi
    · rfl
theorem mtN_w {b : Nat} : ∀ (t : Nat) {n : Nat} {f : Nat → Nat}, okP n f → n + t ≤ 64 → mtN 80 b t f = mtN 64 b t f ∧ okP (n + t) (mtN 64 b t f) := by
  intro t
  induction t with
  | zero => intro n f h _; exact ⟨rfl, h⟩
  | succ t ih =>
    intro n f h hn
    have h1 := mt_w (b := b) h (by omega)
    have h2 := ih h1.2 (by omega)
    show mtN 80 b t (mt 80 b f) = mtN 64 b t (mt 64 b f) ∧ okP (n + (t + 1)) (mtN 64 b t (mt 64 b f))
    rw [h1.1]
    refine ⟨h2.1, ?_⟩
    rw [show n + (t + 1) = n + 1 + t by omega]
    exact h2.2
theorem wd_w {d f : Nat → Nat} (hd : ∀ i, d i ≤ 3) (h : okP 32 f) : ∀ k, k ≤ 9 → wd 80 d k f = wd 64 d k f ∧ okP (32 + 3 * k) (wd 64 d k f) := by
  intro k
  induction k with
  | zero => intro _; exact ⟨rfl, h⟩
  | succ k ih =>
    intro hk
    have h1 := ih (by omega)
    have hdk := hd k
    have h2 := mtN_w (b := k) (d k) h1.2 (by omega)
    show mtN 80 k (d k) (wd 80 d k f) = mtN 64 k (d k) (wd 64 d k f) ∧ okP (32 + 3 * (k + 1)) (mtN 64 k (d k) (wd 64 d k f))
    rw [h1.1]
    exact ⟨h2.1, h2.2.mono (by omega)⟩
theorem ads_w {c : Nat} {f g : Nat → Nat} (hf : okP 64 f) (hg : okP 64 g) : ads 80 c f g = ads 64 c f g := by
  funext i
  unfold ads
  by_cases h : i < 64
  · rw [if_pos h, if_pos (by omega)]
  · rw [if_neg h]
    split
    · rw [hf.2 i (by omega), hg.2 i (by omega), Nat.zero_mul]
    · rfl
theorem cmb_w {c : Nat} {N e M f : Nat → Nat} (hN : okP 32 N) (hM : okP 32 M) (he : ∀ i, e i ≤ 3) (hf : ∀ i, f i ≤ 3) : ads 80 c (wd 80 (fun i => max (e i) (f i) - e i) 9 N) (wd 80 (fun i => max (e i) (f i) - f i) 9 M) = cmb c N e M f := by
  have h1 := wd_w (d := fun i => max (e i) (f i) - e i) (fun i => by have := he i; have := hf i; show max (e i) (f i) - e i ≤ 3; omega) hN 9 (by omega)
  have h2 := wd_w (d := fun i => max (e i) (f i) - f i) (fun i => by have := he i; have := hf i; show max (e i) (f i) - f i ≤ 3; omega) hM 9 (by omega)
  unfold cmb
  rw [cut_id (fun i hi => hN.2 i (by omega)), cut_id (fun i hi => hM.2 i (by omega)), h1.1, h2.1]
  exact ads_w (h1.2.mono (by omega)) (h2.2.mono (by omega))
def rr (S : Sg) (m : Nat) (A B : Nat → Nat) : Prop := rowf (S.1 (m + 4)) 0 = A ∧ rowf (S.1 (m + 4)) 80 = B ∧ okG (S.1 (m + 4))
theorem rr.t0 {S S' : Sg} {m : Nat} {A B h : Nat → Nat} (hr : rr S m A B) (e : S' = arS S (m + 4) (rst (S.1 (m + 4)) 0 h)) (hh : okP 80 h) : rr S' m h B := by
  unfold rr
  rw [e, arS_1]
  exact ⟨rowf_rst hh, by rw [rowf_ne (by omega)]; exact hr.2.1, hr.2.2.rst 0 hh⟩
theorem rr.t8 {S S' : Sg} {m : Nat} {A B h : Nat → Nat} (hr : rr S m A B) (e : S' = arS S (m + 4) (rst (S.1 (m + 4)) 80 h)) (hh : okP 80 h) : rr S' m A h := by
  unfold rr
  rw [e, arS_1]
  exact ⟨by rw [rowf_ne (by omega)]; exact hr.1, rowf_rst hh, hr.2.2.rst 80 hh⟩
theorem rr.ex {S S' : Sg} {m : Nat} {A B : Nat → Nat} (hr : rr S m A B) (e : S'.1 (m + 4) = S.1 (m + 4)) : rr S' m A B := by
  unfold rr
  rw [e]
  exact hr
abbrev exG (m : Nat) : Sg → Sg → Prop := Ex (fun a => a = m ∨ a = m + 4 ∨ a = m + 5)
set_option maxHeartbeats 8000000 in
set_option maxRecDepth 100000 in
theorem m_add {m : Nat} {s c b : Int32} {V : Vt} (hm : isM G m) (hV : MI S m V) (hw : wfV V) : CT (mkE l D cI cT) G y_Model_add b_Model_add 7 (some .int) 6 [.ref m, .int s, .int c, .int b] S (Pi (fun S' r => ∃ V', O_add V s c b r V' ∧ MI S' m V' ∧ exM m S S')) := by
  have hm0 := hm
  obtain ⟨hM, hco, hex, hra, hpo, hbe, hwe, hro, hle, hva⟩ := hm
  refine mk_i (by decide) (eok l D cI cT) (by simp [Value.category]) (Nat.le_of_ble_eq_true rfl) (fun J X hR => ?_)
  show J S 0 [some (.ref m), some (.int s), some (.int c), some (.int b), none, none, none] []
  have hbad : ¬ (sl s ∧ sl c ∧ sl b) → J S 21 [some (.ref m), some (.int s), some (.int c), some (.int b), none, none, none] [] := by
    intro h
    refine r_bipush X (x := (-9)) d_Model_add_21 (by decide) ?_
    exact hR _ _ _ _ d_Model_add_23 rfl ⟨_, rfl, V, Or.inl ⟨h, rfl, rfl⟩, hV, Ex.rf _ _⟩
  refine r_iload_n X d_Model_add_0 (by rfl) ?_
  refine r_cSi X ls_Model_77 m_slot (by decide) rfl (Nat.le_of_ble_eq_true rfl) d_Model_add_1 rfl (fun Sx rx hx => ?_)
  obtain ⟨hxs, hx⟩ := hx
  replace hxs := hxs.symm
  subst hxs
  rcases hx with ⟨rfl, g1⟩ | ⟨rfl, g1⟩
  rotate_left
  · refine r_if_eqN X d_Model_add_4 (tgt := 21) (by decide) (by omega) (fun _ => ?_) (fun hc => absurd rfl hc)
    exact hbad (fun h => g1 h.1)
  refine r_if_eqN X d_Model_add_4 (tgt := 21) (by decide) (by omega) (fun hc => absurd hc (by decide)) (fun _ => ?_)
  refine r_iload_n X d_Model_add_7 (by rfl) ?_
  refine r_cSi X ls_Model_77 m_slot (by decide) rfl (Nat.le_of_ble_eq_true rfl) d_Model_add_8 rfl (fun Sx rx hx => ?_)
  obtain ⟨hxs, hx⟩ := hx
  replace hxs := hxs.symm
  subst hxs
  rcases hx with ⟨rfl, g2⟩ | ⟨rfl, g2⟩
  rotate_left
  · refine r_if_eqN X d_Model_add_11 (tgt := 21) (by decide) (by omega) (fun _ => ?_) (fun hc => absurd rfl hc)
    exact hbad (fun h => g2 h.2.1)
  refine r_if_eqN X d_Model_add_11 (tgt := 21) (by decide) (by omega) (fun hc => absurd hc (by decide)) (fun _ => ?_)
  refine r_iload_n X d_Model_add_14 (by rfl) ?_
  refine r_cSi X ls_Model_77 m_slot (by decide) rfl (Nat.le_of_ble_eq_true rfl) d_Model_add_15 rfl (fun Sx rx hx => ?_)
  obtain ⟨hxs, hx⟩ := hx
  replace hxs := hxs.symm
  subst hxs
  rcases hx with ⟨rfl, g3⟩ | ⟨rfl, g3⟩
  rotate_left
  · refine r_if_neN X d_Model_add_18 (tgt := 24) (by decide) (by omega) (fun hc => absurd rfl hc) (fun _ => ?_)
    exact hbad (fun h => g3 h.2.2)
  refine r_if_neN X d_Model_add_18 (tgt := 24) (by decide) (by omega) (fun _ => ?_) (fun hc => absurd hc (by decide))
  obtain ⟨k, hk, rfl⟩ := g1
  obtain ⟨x, hx, rfl⟩ := g2
  obtain ⟨y, hy, rfl⟩ := g3
  have wx := hw x hx
  have wy := hw y hy
  have rx := hV.1 x hx
  have ry := hV.1 y hy
  have go : ¬ (0 < tp (V x).1 32 ∧ 0 < tp (V y).1 32 ∧ (V x).2.2 ≠ (V y).2.2) → J S 58 [some (.ref m), some (.int (nI k)), some (.int (nI x)), some (.int (nI y)), none, none, none] [] := by
    intro hno
    have goz : ∀ z, z = (if tp (V x).1 32 = 0 then (V y).2.2 else (V x).2.2) → J S 82 [some (.ref m), some (.int (nI k)), some (.int (nI x)), some (.int (nI y)), none, none, none] [.int (nI z), .ref m] := by
      intro z hzz
      refine r_cVv X lv_Model_56 (m_fresh (z := z) hm0) (by assumption) (by decide) rfl (Nat.le_of_ble_eq_true rfl) d_Model_add_82 rfl (fun S1 h1 => ?_)
      obtain ⟨h4, h5, hz, hx1⟩ := h1
      have hV1 : RepM S1 m V := hV.1.ex hx1 (by omega) (by omega) (by omega)
      have hg1 : okG (S1.1 (m + 4)) := by rw [h4]; exact hV.2.rst 0 (zero_ok 80)
      refine r_aload_n X d_Model_add_85 (by rfl) ?_
      refine r_iconst X (x := (nI 0)) d_Model_add_86 (by decide) ?_
      refine r_iload_n X d_Model_add_87 (by rfl) ?_
      refine r_cVv X lv_Model_90 (m_load (p := 0) (s := x) hm0 (by omega) hx) (by assumption) (by decide) rfl (Nat.le_of_ble_eq_true rfl) d_Model_add_88 rfl (fun S2 h2 => ?_)
      rw [crw_eq hV1 hx wx.1] at h2
      have rr1 : rr S1 m (rowf (S1.1 (m + 4)) 0) (rowf (S1.1 (m + 4)) 80) := ⟨rfl, rfl, hg1⟩
      have rr2 := rr1.t0 h2 (wx.1.mono (by omega))
      have ho2 : Out S1 S2 (m + 4) 1 := by rw [h2]; exact Out.ar (by omega) (by omega)
      have hV2 : RepM S2 m V := hV1.ex (ho2.ex (P := fun a => a = m + 4) (fun a h1 h2 => by omega)) (by omega) (by omega) (by omega)
      refine r_aload_n X d_Model_add_91 (by rfl) ?_
      refine r_bipush X (x := (nI 80)) d_Model_add_92 (by decide) ?_
      refine r_iload_n X d_Model_add_94 (by rfl) ?_
      refine r_cVv X lv_Model_90 (m_load (p := 80) (s := y) hm0 (by omega) hy) (by assumption) (by decide) rfl (Nat.le_of_ble_eq_true rfl) d_Model_add_95 rfl (fun S3 h3 => ?_)
      rw [crw_eq hV2 hy wy.1] at h3
      have rr3 := rr2.t8 h3 (wy.1.mono (by omega))
      have ho3 : Out S2 S3 (m + 4) 1 := by rw [h3]; exact Out.ar (by omega) (by omega)
      have hV3 : RepM S3 m V := hV2.ex (ho3.ex (P := fun a => a = m + 4) (fun a h1 h2 => by omega)) (by omega) (by omega) (by omega)
      have loop : ∀ n i S4 o5 o6, i + n = 8 → rr S4 m (wd 80 (fun i => max ((V x).2.1 i) ((V y).2.1 i) - (V x).2.1 i) i (V x).1) (wd 80 (fun i => max ((V x).2.1 i) ((V y).2.1 i) - (V y).2.1 i) i (V y).1) → S4.1 (m + 5) = (fun j => if j < i then max ((V x).2.1 j) ((V y).2.1 j) else 0) → S4.2 m = nI z → RepM S4 m V → exG m S S4 → J S4 101 [some (.ref m), some (.int (nI k)), some (.int (nI x)), some (.int (nI y)), some (.int (nI i)), o5, o6] [] := by
        intro n
        induction n with
        | zero =>
          intro i S4 o5 o6 hi hrr hb5 hz4 hV4 hx4
          have hi8 : i = 8 := by omega
          subst hi8
          refine r_iload X d_Model_add_101 (by rfl) ?_
          refine r_bipush X (x := (nI 8)) d_Model_add_103 (by decide) ?_
          refine r_icmp_geN X d_Model_add_105 (tgt := 198) (by decide) (by omega) (by omega) (fun hc => ?_) (fun hc => ?_)
          · refine r_aload_n X d_Model_add_198 (by rfl) ?_
            refine r_iconst X (x := (nI 0)) d_Model_add_199 (by decide) ?_
            refine r_bipush X (x := (nI 80)) d_Model_add_200 (by decide) ?_
            refine r_iconst X (x := (nI 1)) d_Model_add_202 (by decide) ?_
            refine r_cVv X lv_Model_97 (m_addRow (p := 0) (q := 80) (c := 1) hm0 (by omega) (by omega) (by omega) hrr.2.2 (by omega)) (by assumption) (by decide) rfl (Nat.le_of_ble_eq_true rfl) d_Model_add_203 rfl (fun S5 h5' => ?_)
            rw [hrr.1, hrr.2.1] at h5'
            have rr5 := hrr.t0 h5' (ads_ok 80 _ _ _)
            have ho5 : Out S4 S5 (m + 4) 1 := by rw [h5']; exact Out.ar (by omega) (by omega)
            have hV5 : RepM S5 m V := hV4.ex (ho5.ex (P := fun a => a = m + 4) (fun a h1 h2 => by omega)) (by omega) (by omega) (by omega)
            have e8x : ∀ (d f : Nat → Nat), d 8 = 0 → wd 80 d 9 f = wd 80 d 8 f := fun d f h => by
              show mtN 80 8 (d 8) (wd 80 d 8 f) = _
              rw [h]
              rfl
            have x8 := wx.2.2.1 8 (by omega)
            have y8 := wy.2.2.1 8 (by omega)
            have hcm := cmb_w (c := 1) wx.1 wy.1 wx.2.1 wy.2.1
            rw [e8x _ _ (by show max ((V x).2.1 8) ((V y).2.1 8) - (V x).2.1 8 = 0; omega), e8x _ _ (by show max ((V x).2.1 8) ((V y).2.1 8) - (V y).2.1 8 = 0; omega)] at hcm
            have hmx : S5.1 (m + 5) = mxE (V x).2.1 (V y).2.1 := by
              rw [ho5.a1 (by omega), hb5]
              funext j
              unfold mxE
              by_cases hj : j < 8
              · rw [if_pos hj]
              · rw [if_neg hj]
                have := wx.2.2.1 j (by omega)
                have := wy.2.2.1 j (by omega)
                omega
            refine r_aload_n X d_Model_add_206 (by rfl) ?_
            refine r_iload_n X d_Model_add_207 (by rfl) ?_
            refine r_cVi X lv_Model_84 (m_finish (z := z) (f := addN (V x) (V y)) (e := mxE (V x).2.1 (V y).2.1) hm0 hk hV5 rr5.2.2 (rr5.1.trans hcm) (ads_ok 64 _ _ _) (mxE_ok wx.e wy.e) hmx (by rw [ho5.a2 (by omega)]; exact hz4)) (by assumption) (by decide) rfl (Nat.le_of_ble_eq_true rfl) d_Model_add_208 rfl (fun S6 r h6 => ?_)
            obtain ⟨V', h6, hV6, hg6, -, hx6⟩ := h6
            rw [hzz] at h6
            exact hR _ _ _ _ d_Model_add_211 rfl ⟨_, rfl, V', Or.inr ⟨k, x, y, hk, hx, hy, rfl, rfl, rfl, Or.inr ⟨hno, h6⟩⟩, ⟨hV6, hg6⟩, ((hx4.mono (fun a h => by omega)).trans (ho5.ex (fun a h1 h2 => by omega))).trans (hx6.mono (fun a h => by omega))⟩
          · omega
        | succ n ih =>
          intro i S4 o5 o6 hi hrr hb5 hz4 hV4 hx4
          have e1 := (hV4 x hx).2.1 i (by omega)
          have e2 := (hV4 y hy).2.1 i (by omega)
          have bx := wx.2.1 i
          have byy := wy.2.1 i
          refine r_iload X d_Model_add_101 (by rfl) ?_
          refine r_bipush X (x := (nI 8)) d_Model_add_103 (by decide) ?_
          refine r_icmp_geN X d_Model_add_105 (tgt := 198) (by decide) (by omega) (by omega) (fun hc => ?_) (fun hc => ?_)
          · omega
          · refine r_aload_n X d_Model_add_108 (by rfl) ?_
            refine r_get X lf_Model_13 d_Model_add_109 (by assumption) (by rfl) ?_
            refine r_bipush X (x := (nI 8)) d_Model_add_112 (by decide) ?_
            refine r_iload_n X d_Model_add_114 (by rfl) ?_
            first | refine r_imulN X d_Model_add_115 ?_ | refine r_imul X d_Model_add_115 ?_
            refine r_iload X d_Model_add_116 (by rfl) ?_
            first | refine r_iaddN X d_Model_add_118 ?_ | refine r_iadd X d_Model_add_118 ?_
            refine r_iald X d_Model_add_119 (by assumption) (by omega) (by omega) ?_
            rw [e1]
            refine r_istore X d_Model_add_120 (by decide) ?_
            refine r_aload_n X d_Model_add_122 (by rfl) ?_
            refine r_get X lf_Model_13 d_Model_add_123 (by assumption) (by rfl) ?_
            refine r_bipush X (x := (nI 8)) d_Model_add_126 (by decide) ?_
            refine r_iload_n X d_Model_add_128 (by rfl) ?_
            first | refine r_imulN X d_Model_add_129 ?_ | refine r_imul X d_Model_add_129 ?_
            refine r_iload X d_Model_add_130 (by rfl) ?_
            first | refine r_iaddN X d_Model_add_132 ?_ | refine r_iadd X d_Model_add_132 ?_
            refine r_iald X d_Model_add_133 (by assumption) (by omega) (by omega) ?_
            rw [e2]
            refine r_istore X d_Model_add_134 (by decide) ?_
            refine r_aload_n X d_Model_add_136 (by rfl) ?_
            refine r_get X lf_Model_22 d_Model_add_137 (by assumption) (by rfl) ?_
            refine r_iload X d_Model_add_140 (by rfl) ?_
            refine r_iload X d_Model_add_142 (by rfl) ?_
            refine r_iload X d_Model_add_144 (by rfl) ?_
            have st : ∀ w, w = max ((V x).2.1 i) ((V y).2.1 i) → J S4 156 [some (.ref m), some (.int (nI k)), some (.int (nI x)), some (.int (nI y)), some (.int (nI i)), some (.int (nI ((V x).2.1 i))), some (.int (nI ((V y).2.1 i)))] [.int (nI w), .int (nI i), .ref (m + 5)] := by
              intro w hwm
              refine r_iast X d_Model_add_156 (by assumption) (by omega) (by omega) ?_
              have f5 : (arS S4 (m + 5) (va_up (S4.1 (m + 5)) i w)).1 (m + 5) = (fun j => if j < i + 1 then max ((V x).2.1 j) ((V y).2.1 j) else 0) := by
                rw [arS_1, hb5]
                funext j
                by_cases hj : j = i
                · rw [hj, va_up_s, if_pos (by omega), hwm]
                · rw [va_up_n hj]
                  by_cases hj2 : j < i
                  · rw [if_pos hj2, if_pos (by omega)]
                  · rw [if_neg hj2, if_neg (by omega)]
              have ho5 : Out S4 (arS S4 (m + 5) (va_up (S4.1 (m + 5)) i w)) (m + 5) 1 := Out.ar (by omega) (by omega)
              revert f5 ho5
              generalize arS S4 (m + 5) (va_up (S4.1 (m + 5)) i w) = S5
              intro f5 ho5
              have rr5 := hrr.ex (S' := S5) (ho5.a1 (by omega))
              have g5 : S5.1 (m + 5) i = w := by rw [f5, hwm]; exact if_pos (by omega)
              refine r_aload_n X d_Model_add_157 (by rfl) ?_
              refine r_iconst X (x := (nI 0)) d_Model_add_158 (by decide) ?_
              refine r_iload X d_Model_add_159 (by rfl) ?_
              refine r_aload_n X d_Model_add_161 (by rfl) ?_
              refine r_get X lf_Model_22 d_Model_add_162 (by assumption) (by rfl) ?_
              refine r_iload X d_Model_add_165 (by rfl) ?_
              refine r_iald X d_Model_add_167 (by assumption) (by omega) (by omega) ?_
              rw [g5]
              refine r_iload X d_Model_add_168 (by rfl) ?_
              first | refine r_isubN X d_Model_add_170 (by omega) ?_ | refine r_isub X d_Model_add_170 ?_
              refine r_cVv X lv_Model_93 (m_times (p := 0) (x := nI i) hm0 (by omega) rr5.2.2 (by omega)) (by assumption) (by decide) rfl (Nat.le_of_ble_eq_true rfl) d_Model_add_171 rfl (fun S6 h6 => ?_)
              rw [rr5.1, em_nI (by omega), Nat.mod_eq_of_lt (by omega)] at h6
              have rr6 := rr5.t0 h6 (mtN_ok (wd_ok (wx.1.mono (by omega)) i))
              have ho6 : Out S5 S6 (m + 4) 1 := by rw [h6]; exact Out.ar (by omega) (by omega)
              have g6 : S6.1 (m + 5) i = w := by rw [ho6.a1 (by omega)]; exact g5
              refine r_aload_n X d_Model_add_174 (by rfl) ?_
              refine r_bipush X (x := (nI 80)) d_Model_add_175 (by decide) ?_
              refine r_iload X d_Model_add_177 (by rfl) ?_
              refine r_aload_n X d_Model_add_179 (by rfl) ?_
              refine r_get X lf_Model_22 d_Model_add_180 (by assumption) (by rfl) ?_
              refine r_iload X d_Model_add_183 (by rfl) ?_
              refine r_iald X d_Model_add_185 (by assumption) (by omega) (by omega) ?_
              rw [g6]
              refine r_iload X d_Model_add_186 (by rfl) ?_
              first | refine r_isubN X d_Model_add_188 (by omega) ?_ | refine r_isub X d_Model_add_188 ?_
              refine r_cVv X lv_Model_93 (m_times (p := 80) (x := nI i) hm0 (by omega) rr6.2.2 (by omega)) (by assumption) (by decide) rfl (Nat.le_of_ble_eq_true rfl) d_Model_add_189 rfl (fun S7 h7 => ?_)
              rw [rr6.2.1, em_nI (by omega), Nat.mod_eq_of_lt (by omega)] at h7
              have rr7 := rr6.t8 h7 (mtN_ok (wd_ok (wy.1.mono (by omega)) i))
              have ho7 : Out S6 S7 (m + 4) 1 := by rw [h7]; exact Out.ar (by omega) (by omega)
              rw [hwm] at rr7
              refine r_iincN X 1 d_Model_add_192 (by rfl) (by decide) (by decide) ?_
              refine r_goto X d_Model_add_195 (tgt := 101) (by decide) ?_
              refine ih (i + 1) S7 _ _ (by omega) rr7 ?_ ?_ ?_ ?_
              · rw [ho7.a1 (by omega), ho6.a1 (by omega)]; exact f5
              · rw [ho7.a2 (by omega), ho6.a2 (by omega), ho5.a2 (by omega)]; exact hz4
              · exact ((hV4.ex (ho5.ex (P := fun a => a = m + 5) (fun a h1 h2 => by omega)) (by omega) (by omega) (by omega)).ex (ho6.ex (P := fun a => a = m + 4) (fun a h1 h2 => by omega)) (by omega) (by omega) (by omega)).ex (ho7.ex (P := fun a => a = m + 4) (fun a h1 h2 => by omega)) (by omega) (by omega) (by omega)
              · exact ((hx4.trans (ho5.ex (fun a h1 h2 => by omega))).trans (ho6.ex (fun a h1 h2 => by omega))).trans (ho7.ex (fun a h1 h2 => by omega))
            refine r_icmp_leN X d_Model_add_146 (tgt := 154) (by decide) (by omega) (by omega) (fun hc => ?_) (fun hc => ?_)
            · refine r_iload X d_Model_add_154 (by rfl) ?_
              exact st _ (by omega)
            · refine r_iload X d_Model_add_149 (by rfl) ?_
              refine r_goto X d_Model_add_151 (tgt := 156) (by decide) ?_
              exact st _ (by omega)
      refine r_iconst X (x := (nI 0)) d_Model_add_98 (by decide) ?_
      refine r_istore X d_Model_add_99 (by decide) ?_
      refine loop 8 0 S3 _ _ (by omega) rr3 ?_ ?_ hV3 ?_
      · rw [ho3.a1 (by omega), ho2.a1 (by omega), h5]
        funext j
        rw [if_neg (by omega)]
      · rw [ho3.a2 (by omega), ho2.a2 (by omega)]; exact hz
      · exact (hx1.trans (ho2.ex (fun a h1 h2 => by omega))).trans (ho3.ex (fun a h1 h2 => by omega))
    refine r_aload_n X d_Model_add_58 (by rfl) ?_
    refine r_aload_n X d_Model_add_59 (by rfl) ?_
    refine r_iload_n X d_Model_add_60 (by rfl) ?_
    refine r_cVi X lv_Model_87 (m_isZero (s := x) hm0 hx hV.1 hw) (by assumption) (by decide) rfl (Nat.le_of_ble_eq_true rfl) d_Model_add_61 rfl (fun S1 r h1 => ?_)
    obtain ⟨hxs, ⟨rfl, h1⟩ | ⟨rfl, h1⟩⟩ := h1
    · replace hxs := hxs.symm
      subst hxs
      refine r_if_eqN X d_Model_add_64 (tgt := 76) (by decide) (by omega) (fun hc => ?_) (fun hc => ?_)
      · omega
      · refine r_aload_n X d_Model_add_67 (by rfl) ?_
        refine r_get X lf_Model_16 d_Model_add_68 (by assumption) (by rfl) ?_
        refine r_iload_n X d_Model_add_71 (by rfl) ?_
        refine r_iald X d_Model_add_72 (by assumption) (by omega) (by omega) ?_
        refine r_goto X d_Model_add_73 (tgt := 82) (by decide) ?_
        rw [ry.2.2]
        exact goz _ (by rw [if_pos h1])
    · replace hxs := hxs.symm
      subst hxs
      refine r_if_eqN X d_Model_add_64 (tgt := 76) (by decide) (by omega) (fun hc => ?_) (fun hc => ?_)
      · refine r_aload_n X d_Model_add_76 (by rfl) ?_
        refine r_get X lf_Model_16 d_Model_add_77 (by assumption) (by rfl) ?_
        refine r_iload_n X d_Model_add_80 (by rfl) ?_
        refine r_iald X d_Model_add_81 (by assumption) (by omega) (by omega) ?_
        rw [rx.2.2]
        exact goz _ (by rw [if_neg (by omega)])
      · omega
  refine r_aload_n X d_Model_add_24 (by rfl) ?_
  refine r_iload_n X d_Model_add_25 (by rfl) ?_
  refine r_cVi X lv_Model_87 (m_isZero (s := x) hm0 hx hV.1 hw) (by assumption) (by decide) rfl (Nat.le_of_ble_eq_true rfl) d_Model_add_26 rfl (fun S1 r h1 => ?_)
  obtain ⟨hxs, ⟨rfl, h1⟩ | ⟨rfl, h1⟩⟩ := h1
  · replace hxs := hxs.symm
    subst hxs
    refine r_if_neN X d_Model_add_29 (tgt := 58) (by decide) (by omega) (fun hc => ?_) (fun hc => ?_)
    · exact go (fun h => by omega)
    · omega
  · replace hxs := hxs.symm
    subst hxs
    refine r_if_neN X d_Model_add_29 (tgt := 58) (by decide) (by omega) (fun hc => ?_) (fun hc => ?_)
    · omega
    · refine r_aload_n X d_Model_add_32 (by rfl) ?_
      refine r_iload_n X d_Model_add_33 (by rfl) ?_
      refine r_cVi X lv_Model_87 (m_isZero (s := y) hm0 hy hV.1 hw) (by assumption) (by decide) rfl (Nat.le_of_ble_eq_true rfl) d_Model_add_34 rfl (fun S2 r h2 => ?_)
      obtain ⟨hxs, ⟨rfl, h2⟩ | ⟨rfl, h2⟩⟩ := h2
      · replace hxs := hxs.symm
        subst hxs
        refine r_if_neN X d_Model_add_37 (tgt := 58) (by decide) (by omega) (fun hc => ?_) (fun hc => ?_)
        · exact go (fun h => by omega)
        · omega
      · replace hxs := hxs.symm
        subst hxs
        refine r_if_neN X d_Model_add_37 (tgt := 58) (by decide) (by omega) (fun hc => ?_) (fun hc => ?_)
        · omega
        · refine r_aload_n X d_Model_add_40 (by rfl) ?_
          refine r_get X lf_Model_16 d_Model_add_41 (by assumption) (by rfl) ?_
          refine r_iload_n X d_Model_add_44 (by rfl) ?_
          refine r_iald X d_Model_add_45 (by assumption) (by omega) (by omega) ?_
          rw [rx.2.2]
          refine r_aload_n X d_Model_add_46 (by rfl) ?_
          refine r_get X lf_Model_16 d_Model_add_47 (by assumption) (by rfl) ?_
          refine r_iload_n X d_Model_add_50 (by rfl) ?_
          refine r_iald X d_Model_add_51 (by assumption) (by omega) (by omega) ?_
          rw [ry.2.2]
          have zx := wx.2.2.2.2
          have zy := wy.2.2.2.2
          refine r_icmp_eqN X d_Model_add_52 (tgt := 58) (by decide) (by omega) (by omega) (fun hc => ?_) (fun hc => ?_)
          · exact go (fun h => h.2.2 hc)
          · refine r_bipush X (x := (-8)) d_Model_add_55 (by decide) ?_
            exact hR _ _ _ _ d_Model_add_57 rfl ⟨_, rfl, V, Or.inr ⟨k, x, y, hk, hx, hy, rfl, rfl, rfl, Or.inl ⟨h1, h2, hc, rfl, rfl⟩⟩, hV, Ex.rf _ _⟩
end M5
