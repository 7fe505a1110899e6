section M6
variable {l : Launch} {D : va_G} {cI cT : ClassId} {G : Gm} {S : Sg}
theorem tyl_inv {n : Nat} (f : Nat → Nat) : ∀ k, k ≤ n → ∀ y, pv f n y = ev (fun i => fi (tyl n k f i)) k (y - 1) + px (y - 1) k * ev (fun i => fi (tyl n k f (k + i))) (n - k) y := by
  intro k
  induction k with
  | zero =>
    intro _ y
    unfold pv
    simp only [ev, Nat.zero_add, Nat.sub_zero]
    rw [px_0]
    show ev (fun j => fi (f j)) n y = 0 + 1 * ev (fun i => fi (f i)) n y
    grobner
  | succ k ih =>
    intro hk y
    rw [ih (by omega) y]
    show _ = ev (fun i => fi (psn n k (tyl n k f) i)) (k + 1) (y - 1) + px (y - 1) (k + 1) * ev (fun i => fi (psn n k (tyl n k f) (k + 1 + i))) (n - (k + 1)) y
    generalize tyl n k f = c
    have h1 : ev (fun i => fi (psn n k c i)) k (y - 1) = ev (fun i => fi (c i)) k (y - 1) := ev_ext (fun i hi => by unfold psn; rw [if_neg (by omega)]) _
    have h3 : fi (psn n k c (k + 0)) = ev (fun i => fi (c (k + i))) (n - k) 1 := by
      unfold psn
      rw [if_pos (by omega), Nat.add_zero, hn_fi, fi_1]
    have h2 : ev (fun i => fi (psn n k c (k + 1 + i))) (n - (k + 1)) y = ev (dv 1 (fun i => fi (c (k + i))) (n - k)) (n - k - 1) y := by
      rw [show n - (k + 1) = n - k - 1 by omega]
      refine ev_ext (fun i hi => ?_) _
      unfold psn dv
      rw [if_pos (by omega), hn_fi, fi_1, show n - (k + 1 + i) = n - k - (i + 1) by omega]
      refine ev_ext (fun j _ => ?_) _
      rw [show k + 1 + i + j = k + (i + 1 + j) by omega]
    have h4 := ev_dv 1 (fun i => fi (c (k + i))) (n - k) y
    rw [ev_split, h1, h2, px_s]
    simp only [ev]
    rw [h3]
    grobner
theorem pv_tyl {n : Nat} (f : Nat → Nat) (x : Fp) : pv (tyl n n f) n x = pv f n (x + 1) := by
  have h := tyl_inv f n (Nat.le_refl n) (x + 1)
  rw [show x + 1 - 1 = x by grobner, show n - n = 0 by omega] at h
  simp only [ev] at h
  rw [h]
  unfold pv
  grobner
theorem pv_scl (c : Nat) (f : Nat → Nat) (n : Nat) (x : Fp) : pv (scl c f) n x = fi c * pv f n x := by
  unfold pv
  rw [← ev_smul]
  refine ev_ext (fun i _ => ?_) _
  unfold scl
  rw [fi_mod, fi_mul]
  grobner
theorem pv_up0 (g : Nat → Nat) (c n : Nat) (x : Fp) : pv (va_up g 0 ((g 0 + c) % 10007)) (n + 1) x = pv g (n + 1) x + fi c := by
  unfold pv
  simp only [ev]
  rw [va_up_s, fi_mod, fi_add]
  have h : ev (fun i => fi (va_up g 0 ((g 0 + c) % 10007) (i + 1))) n x = ev (fun i => fi (g (i + 1))) n x := ev_ext (fun i _ => by rw [va_up_n (by omega)]) _
  rw [h]
  grobner
def hmv (z : Nat) (f : Nat → Nat) : Nat → Nat → Nat → Nat
  | 0, _ => fun _ => 0
  | t + 1, j => va_up (mt 80 1 (hmv z f t (j + 1))) 0 ((mt 80 1 (hmv z f t (j + 1)) 0 + z * f j) % 10007)
theorem hmv_ok (z : Nat) (f : Nat → Nat) : ∀ t j, t ≤ 64 → okP t (hmv z f t j) := by
  intro t
  induction t with
  | zero => intro j _; exact zero_ok 0
  | succ t ih =>
    intro j ht
    have h := mt_w (b := 1) (ih (j + 1) (by omega)) (by omega)
    unfold hmv
    rw [h.1]
    exact va_ok h.2 (by omega) (Nat.mod_lt _ (by decide))
theorem hmv_pv (z : Nat) (f : Nat → Nat) (x : Fp) : ∀ t j, t ≤ 64 → pv (hmv z f t j) 80 x = fi z * ev (fun i => fi (f (j + i))) t (x + 1) := by
  intro t
  induction t with
  | zero =>
    intro j _
    unfold hmv pv
    rw [show ev (fun j => fi ((fun _ => 0) j)) 80 x = 0 from ev_zero (fun _ _ => rfl) x]
    show (0 : Fp) = fi z * 0
    grobner
  | succ t ih =>
    intro j ht
    unfold hmv
    rw [pv_up0 _ _ 79, pv_mt (m := t) (by omega) (hmv_ok z f t (j + 1) (by omega)).2, ih (j + 1) (by omega)]
    simp only [ev, Nat.add_zero]
    have h : ev (fun i => fi (f (j + 1 + i))) t (x + 1) = ev (fun i => fi (f (j + (i + 1)))) t (x + 1) := ev_ext (fun i _ => by rw [show j + 1 + i = j + (i + 1) by omega]) _
    rw [h, fi_mul, fi_1]
    grobner
theorem nxt_w {z : Nat} {f : Nat → Nat} (h : okP 32 f) : hmv z f 32 0 = nxt 64 z f := by
  have h1 := hmv_ok z f 32 0 (by omega)
  refine pv_eq (n := 64) (by omega) (h1.mono (by omega)) (nxt_ok 64 z h.1) (fun x _ => ?_)
  rw [← pv_le (m := 80) (n := 64) (by omega) (fun i hi => h1.2 i (by omega)), hmv_pv z f x 32 0 (by omega)]
  unfold nxt
  rw [pv_scl, pv_tyl, cut_id (fun i hi => h.2 i (by omega)), pv_le (m := 64) (n := 32) (by omega) h.2]
  unfold pv
  congr 1
theorem rst_up0 (g : Nat → Nat) (p : Nat) (h : Nat → Nat) (v : Nat) : va_up (rst g p h) p v = rst g p (va_up h 0 v) := by
  funext j
  by_cases e : j = p
  · rw [e, va_up_s]
    have := rst_at (g := g) (p := p) (i := 0) (h := va_up h 0 v) (by omega)
    rw [Nat.add_zero, va_up_s] at this
    exact this.symm
  · rw [va_up_n e]
    unfold rst prt
    by_cases e2 : p ≤ j ∧ j < p + 80
    · rw [if_pos e2, if_pos e2, va_up_n (by omega)]
    · rw [if_neg e2, if_neg e2]
set_option maxHeartbeats 8000000 in
set_option maxRecDepth 100000 in
theorem m_moved {m p a : Nat} {V : Vt} (hm : isM G m) (hp : p ≤ 240) (ha : a < 8) (hV : RepM S m V) (hw : wfV V) (hg : okG (S.1 (m + 4))) : CT (mkE l D cI cT) G y_Model_moved b_Model_moved 4 none 2 [.ref m, .int (nI p), .int (nI a)] S (Pv (fun S' => S' = arS S (m + 4) (rst (S.1 (m + 4)) p (hmv (V a).2.2 (V a).1 32 0)))) := by
  have hm0 := hm
  obtain ⟨hM, hco, hex, hra, hpo, hbe, hwe, hro, hle, hva⟩ := hm
  have wa := hw a ha
  refine mk_v (by decide) (eok l D cI cT) (by simp [Value.category]) (Nat.le_of_ble_eq_true rfl) (fun J X hR => ?_)
  show J S 0 [some (.ref m), some (.int (nI p)), some (.int (nI a)), none] []
  have loop : ∀ t S1, t ≤ 32 → S1 = arS S (m + 4) (rst (S.1 (m + 4)) p (hmv (V a).2.2 (V a).1 (32 - t) t)) → J S1 8 [some (.ref m), some (.int (nI p)), some (.int (nI a)), some (.int (tI t))] [] := by
    intro t
    induction t with
    | zero =>
      intro S1 ht hS
      refine r_iload_n X d_Model_moved_8 (by rfl) ?_
      refine r_if_ltT X d_Model_moved_9 (tgt := 60) (by decide) (by omega) (fun hc => ?_) (fun uu hc => ?_)
      · exact hR _ _ _ d_Model_moved_60 ⟨rfl, hS⟩
      · omega
    | succ t ih =>
      intro S1 ht hS
      have hok := hmv_ok (V a).2.2 (V a).1 (32 - (t + 1)) (t + 1) (by omega)
      have f1 : S1.1 (m + 4) = rst (S.1 (m + 4)) p (hmv (V a).2.2 (V a).1 (32 - (t + 1)) (t + 1)) := by rw [hS, arS_1]
      have hg1 : okG (S1.1 (m + 4)) := by rw [f1]; exact hg.rst p (hok.mono (by omega))
      have hV1 : RepM S1 m V := by rw [hS]; exact hV.ex ((Out.ar (q := m + 4) (w := 1) (by omega) (by omega)).ex (P := fun a => a = m + 4) (fun a h1 h2 => by omega)) (by omega) (by omega) (by omega)
      refine r_iload_n X d_Model_moved_8 (by rfl) ?_
      refine r_if_ltT X d_Model_moved_9 (tgt := 60) (by decide) (by omega) (fun hc => ?_) (fun uu hc => ?_)
      · omega
      · rw [tI_s]
        refine r_aload_n X d_Model_moved_12 (by rfl) ?_
        refine r_iload_n X d_Model_moved_13 (by rfl) ?_
        refine r_iconst X (x := (nI 1)) d_Model_moved_14 (by decide) ?_
        refine r_iconst X (x := (nI 1)) d_Model_moved_15 (by decide) ?_
        refine r_cVv X lv_Model_93 (m_times (p := p) (x := nI 1) (n := 1) hm0 hp hg1 (by omega)) (by assumption) (by decide) rfl (Nat.le_of_ble_eq_true rfl) d_Model_moved_16 rfl (fun S2 h2 => ?_)
        rw [f1, rowf_rst (hok.mono (by omega)), rst_rst, em_nI (by decide), Nat.mod_eq_of_lt (by decide)] at h2
        have h2 : S2 = arS S1 (m + 4) (rst (S.1 (m + 4)) p (mt 80 1 (hmv (V a).2.2 (V a).1 (32 - (t + 1)) (t + 1)))) := h2
        have ho2 : Out S1 S2 (m + 4) 1 := by rw [h2]; exact Out.ar (by omega) (by omega)
        have f2 : S2.1 (m + 4) = rst (S.1 (m + 4)) p (mt 80 1 (hmv (V a).2.2 (V a).1 (32 - (t + 1)) (t + 1))) := by rw [h2, arS_1]
        have hV2 : RepM S2 m V := hV1.ex (ho2.ex (P := fun a => a = m + 4) (fun a h1 h2 => by omega)) (by omega) (by omega) (by omega)
        have g0 : S2.1 (m + 4) p = mt 80 1 (hmv (V a).2.2 (V a).1 (32 - (t + 1)) (t + 1)) 0 := by
          rw [f2]
          have := rst_at (g := S.1 (m + 4)) (p := p) (i := 0) (h := mt 80 1 (hmv (V a).2.2 (V a).1 (32 - (t + 1)) (t + 1))) (by omega)
          exact this
        have b0 := (mt_ok 80 1 (hmv (V a).2.2 (V a).1 (32 - (t + 1)) (t + 1))).1 0
        have bt := wa.1.1 t
        have hml := mul_bd wa.2.2.2.2 bt
        have ra := hV2 a ha
        refine r_aload_n X d_Model_moved_19 (by rfl) ?_
        refine r_get X lf_Model_19 d_Model_moved_20 (by assumption) (by rfl) ?_
        refine r_iload_n X d_Model_moved_23 (by rfl) ?_
        refine r_aload_n X d_Model_moved_24 (by rfl) ?_
        refine r_get X lf_Model_19 d_Model_moved_25 (by assumption) (by rfl) ?_
        refine r_iload_n X d_Model_moved_28 (by rfl) ?_
        refine r_iald X d_Model_moved_29 (by assumption) (by omega) (by omega) ?_
        rw [g0]
        refine r_aload_n X d_Model_moved_30 (by rfl) ?_
        refine r_get X lf_Model_16 d_Model_moved_31 (by assumption) (by rfl) ?_
        refine r_iload_n X d_Model_moved_34 (by rfl) ?_
        refine r_iald X d_Model_moved_35 (by assumption) (by omega) (by omega) ?_
        rw [ra.2.2]
        refine r_aload_n X d_Model_moved_36 (by rfl) ?_
        refine r_get X lf_Model_7 d_Model_moved_37 (by assumption) (by rfl) ?_
        refine r_bipush X (x := (nI 32)) d_Model_moved_40 (by decide) ?_
        refine r_iload_n X d_Model_moved_42 (by rfl) ?_
        first | refine r_imulN X d_Model_moved_43 ?_ | refine r_imul X d_Model_moved_43 ?_
        refine r_iload_n X d_Model_moved_44 (by rfl) ?_
        first | refine r_iaddN X d_Model_moved_45 ?_ | refine r_iadd X d_Model_moved_45 ?_
        refine r_iald X d_Model_moved_46 (by assumption) (by omega) (by omega) ?_
        rw [ra.1 t (by omega)]
        first | refine r_imulN X d_Model_moved_47 ?_ | refine r_imul X d_Model_moved_47 ?_
        first | refine r_iaddN X d_Model_moved_48 ?_ | refine r_iadd X d_Model_moved_48 ?_
        refine r_sipush X (x := (nI 10007)) d_Model_moved_49 (by decide) ?_
        refine r_iremN X d_Model_moved_52 (by decide) (by decide) (by omega) ?_
        refine r_iast X d_Model_moved_53 (by assumption) (by omega) (by omega) ?_
        refine r_iincD X d_Model_moved_54 (by rfl) (by decide) ?_
        refine r_goto X d_Model_moved_57 (tgt := 8) (by decide) ?_
        refine ih _ (by omega) ?_
        rw [h2, arS_arS, arS_1, rst_up0, hS, arS_arS, show 32 - t = (32 - (t + 1)) + 1 by omega]
        rfl
  refine r_aload_n X d_Model_moved_0 (by rfl) ?_
  refine r_iload_n X d_Model_moved_1 (by rfl) ?_
  refine r_cVv X lv_Model_41 (m_clear (p := p) hm0 hp) (by assumption) (by decide) rfl (Nat.le_of_ble_eq_true rfl) d_Model_moved_2 rfl (fun S2 h2 => ?_)
  refine r_bipush X (x := tI 32) d_Model_moved_5 (by decide) ?_
  refine r_istore_n X d_Model_moved_7 (by decide) ?_
  exact loop 32 S2 (by omega) h2
set_option maxHeartbeats 8000000 in
set_option maxRecDepth 100000 in
theorem m_differ {m x : Nat} {V : Vt} (hm : isM G m) (hx : x < 8) (hV : MI S m V) (hw : wfV V) : CT (mkE l D cI cT) G y_Model_differ b_Model_differ 5 none 3 [.ref m, .int (nI x)] S (Pv (fun S' => rowf (S'.1 (m + 4)) 0 = difN (V x) ∧ okG (S'.1 (m + 4)) ∧ S'.1 (m + 5) = difE (V x) ∧ S'.2 m = nI (V x).2.2 ∧ RepM S' m V ∧ exG m S S')) := by
  have hm0 := hm
  obtain ⟨hM, hco, hex, hra, hpo, hbe, hwe, hro, hle, hva⟩ := hm
  have wx := hw x hx
  have rx := hV.1 x hx
  have x8 := wx.2.2.1 8 (by omega)
  refine mk_v (by decide) (eok l D cI cT) (by simp [Value.category]) (Nat.le_of_ble_eq_true rfl) (fun J X hR => ?_)
  show J S 0 [some (.ref m), some (.int (nI x)), none, none, none] []
  have hno := nxt_w (z := (V x).2.2) wx.1
  have hnk : okP 32 (nxt 64 (V x).2.2 (V x).1) := by rw [← hno]; exact hmv_ok _ _ 32 0 (by omega)
  have hs3 : ∀ i, sh1 (V x).2.1 i ≤ 3 := fun i => by
    unfold sh1
    split
    · omega
    · split
      · exact wx.2.1 _
      · omega
  refine r_aload_n X d_Model_differ_0 (by rfl) ?_
  refine r_aload_n X d_Model_differ_1 (by rfl) ?_
  refine r_get X lf_Model_16 d_Model_differ_2 (by assumption) (by rfl) ?_
  refine r_iload_n X d_Model_differ_5 (by rfl) ?_
  refine r_iald X d_Model_differ_6 (by assumption) (by omega) (by omega) ?_
  rw [rx.2.2]
  refine r_cVv X lv_Model_56 (m_fresh (z := (V x).2.2) hm0) (by assumption) (by decide) rfl (Nat.le_of_ble_eq_true rfl) d_Model_differ_7 rfl (fun S1 h1 => ?_)
  obtain ⟨h4, h5, hz, hx1⟩ := h1
  have hV1 : RepM S1 m V := hV.1.ex hx1 (by omega) (by omega) (by omega)
  have hg1 : okG (S1.1 (m + 4)) := by rw [h4]; exact hV.2.rst 0 (zero_ok 80)
  have rr1 : rr S1 m (rowf (S1.1 (m + 4)) 0) (rowf (S1.1 (m + 4)) 80) := ⟨rfl, rfl, hg1⟩
  refine r_aload_n X d_Model_differ_10 (by rfl) ?_
  refine r_bipush X (x := (nI 80)) d_Model_differ_11 (by decide) ?_
  refine r_iload_n X d_Model_differ_13 (by rfl) ?_
  refine r_cVv X lv_Model_90 (m_load (p := 80) (s := x) hm0 (by omega) hx) (by assumption) (by decide) rfl (Nat.le_of_ble_eq_true rfl) d_Model_differ_14 rfl (fun S2 h2 => ?_)
  rw [crw_eq hV1 hx wx.1] at h2
  have rr2 := rr1.t8 h2 (wx.1.mono (by omega))
  have ho2 : Out S1 S2 (m + 4) 1 := by rw [h2]; exact Out.ar (by omega) (by omega)
  have hV2 : RepM S2 m V := hV1.ex (ho2.ex (P := fun a => a = m + 4) (fun a h1 h2 => by omega)) (by omega) (by omega) (by omega)
  refine r_aload_n X d_Model_differ_17 (by rfl) ?_
  refine r_iconst X (x := (nI 0)) d_Model_differ_18 (by decide) ?_
  refine r_iload_n X d_Model_differ_19 (by rfl) ?_
  refine r_cVv X lv_Model_100 (m_moved (p := 0) (a := x) hm0 (by omega) hx hV2 hw rr2.2.2) (by assumption) (by decide) rfl (Nat.le_of_ble_eq_true rfl) d_Model_differ_20 rfl (fun S3 h3 => ?_)
  rw [hno] at h3
  have rr3 := rr2.t0 h3 (hnk.mono (by omega))
  have ho3 : Out S2 S3 (m + 4) 1 := by rw [h3]; exact Out.ar (by omega) (by omega)
  have hV3 : RepM S3 m V := hV2.ex (ho3.ex (P := fun a => a = m + 4) (fun a h1 h2 => by omega)) (by omega) (by omega) (by omega)
  have loop : ∀ n i S4 o5 o6, i + n = 9 → rr S4 m (wd 80 (fun i => max (sh1 (V x).2.1 i) ((V x).2.1 i) - sh1 (V x).2.1 i) i (nxt 64 (V x).2.2 (V x).1)) (wd 80 (fun i => max (sh1 (V x).2.1 i) ((V x).2.1 i) - (V x).2.1 i) i (V x).1) → S4.1 (m + 5) = (fun j => if j < i then max (sh1 (V x).2.1 j) ((V x).2.1 j) else 0) → S4.2 m = nI (V x).2.2 → RepM S4 m V → exG m S S4 → J S4 25 [some (.ref m), some (.int (nI x)), some (.int (nI i)), o5, o6] [] := by
    intro n
    induction n with
    | zero =>
      intro i S4 o5 o6 hi hrr hb5 hz4 hV4 hx4
      have hi8 : i = 9 := by omega
      subst hi8
      refine r_iload_n X d_Model_differ_25 (by rfl) ?_
      refine r_bipush X (x := (nI 9)) d_Model_differ_26 (by decide) ?_
      refine r_icmp_geN X d_Model_differ_28 (tgt := 130) (by decide) (by omega) (by omega) (fun hc => ?_) (fun hc => ?_)
      · refine r_aload_n X d_Model_differ_130 (by rfl) ?_
        refine r_iconst X (x := (nI 0)) d_Model_differ_131 (by decide) ?_
        refine r_bipush X (x := (nI 80)) d_Model_differ_132 (by decide) ?_
        refine r_sipush X (x := (nI 10006)) d_Model_differ_134 (by decide) ?_
        refine r_cVv X lv_Model_97 (m_addRow (p := 0) (q := 80) (c := 10006) hm0 (by omega) (by omega) (by omega) hrr.2.2 (by omega)) (by assumption) (by decide) rfl (Nat.le_of_ble_eq_true rfl) d_Model_differ_137 rfl (fun S5 h5' => ?_)
        rw [hrr.1, hrr.2.1] at h5'
        have rr5 := hrr.t0 h5' (ads_ok 80 _ _ _)
        have ho5 : Out S4 S5 (m + 4) 1 := by rw [h5']; exact Out.ar (by omega) (by omega)
        have hV5 : RepM S5 m V := hV4.ex (ho5.ex (P := fun a => a = m + 4) (fun a h1 h2 => by omega)) (by omega) (by omega) (by omega)
        refine hR _ _ _ d_Model_differ_140 ⟨rfl, rr5.1.trans (cmb_w hnk wx.1 hs3 wx.2.1), rr5.2.2, ?_, by rw [ho5.a2 (by omega)]; exact hz4, hV5, hx4.trans (ho5.ex (fun a h1 h2 => by omega))⟩
        rw [ho5.a1 (by omega), hb5]
        funext j
        unfold difE mxE
        by_cases hj : j < 9
        · rw [if_pos hj]
        · rw [if_neg hj]
          have := wx.2.2.1 j (by omega)
          unfold sh1
          rw [if_neg (by omega), if_neg hj, this]
          rfl
      · omega
    | succ n ih =>
      intro i S4 o5 o6 hi hrr hb5 hz4 hV4 hx4
      have bx := hs3 i
      have byy := wx.2.1 i
      have st : ∀ w, w = max (sh1 (V x).2.1 i) ((V x).2.1 i) → J S4 93 [some (.ref m), some (.int (nI x)), some (.int (nI i)), some (.int (nI (sh1 (V x).2.1 i))), some (.int (nI ((V x).2.1 i)))] [.int (nI w), .int (nI i), .ref (m + 5)] := by
        intro w hwm
        refine r_iast X d_Model_differ_93 (by assumption) (by omega) (by omega) ?_
        have f5 : (arS S4 (m + 5) (va_up (S4.1 (m + 5)) i w)).1 (m + 5) = (fun j => if j < i + 1 then max (sh1 (V x).2.1 j) ((V x).2.1 j) else 0) := by
          rw [arS_1, hb5]
          funext j
          by_cases hj : j = i
          · rw [hj, va_up_s, if_pos (by omega), hwm]
          · rw [va_up_n hj]
            by_cases hj2 : j < i
            · rw [if_pos hj2, if_pos (by omega)]
            · rw [if_neg hj2, if_neg (by omega)]
        have ho5 : Out S4 (arS S4 (m + 5) (va_up (S4.1 (m + 5)) i w)) (m + 5) 1 := Out.ar (by omega) (by omega)
        revert f5 ho5
        generalize arS S4 (m + 5) (va_up (S4.1 (m + 5)) i w) = S5
        intro f5 ho5
        have rr5 := hrr.ex (S' := S5) (ho5.a1 (by omega))
        have g5 : S5.1 (m + 5) i = w := by rw [f5, hwm]; exact if_pos (by omega)
        refine r_aload_n X d_Model_differ_94 (by rfl) ?_
        refine r_iconst X (x := (nI 0)) d_Model_differ_95 (by decide) ?_
        refine r_iload_n X d_Model_differ_96 (by rfl) ?_
        refine r_aload_n X d_Model_differ_97 (by rfl) ?_
        refine r_get X lf_Model_22 d_Model_differ_98 (by assumption) (by rfl) ?_
        refine r_iload_n X d_Model_differ_101 (by rfl) ?_
        refine r_iald X d_Model_differ_102 (by assumption) (by omega) (by omega) ?_
        rw [g5]
        refine r_iload_n X d_Model_differ_103 (by rfl) ?_
        first | refine r_isubN X d_Model_differ_104 (by omega) ?_ | refine r_isub X d_Model_differ_104 ?_
        refine r_cVv X lv_Model_93 (m_times (p := 0) (x := nI i) hm0 (by omega) rr5.2.2 (by omega)) (by assumption) (by decide) rfl (Nat.le_of_ble_eq_true rfl) d_Model_differ_105 rfl (fun S6 h6 => ?_)
        rw [rr5.1, em_nI (by omega), Nat.mod_eq_of_lt (by omega)] at h6
        have rr6 := rr5.t0 h6 (mtN_ok (wd_ok (hnk.mono (by omega)) i))
        have ho6 : Out S5 S6 (m + 4) 1 := by rw [h6]; exact Out.ar (by omega) (by omega)
        have g6 : S6.1 (m + 5) i = w := by rw [ho6.a1 (by omega)]; exact g5
        refine r_aload_n X d_Model_differ_108 (by rfl) ?_
        refine r_bipush X (x := (nI 80)) d_Model_differ_109 (by decide) ?_
        refine r_iload_n X d_Model_differ_111 (by rfl) ?_
        refine r_aload_n X d_Model_differ_112 (by rfl) ?_
        refine r_get X lf_Model_22 d_Model_differ_113 (by assumption) (by rfl) ?_
        refine r_iload_n X d_Model_differ_116 (by rfl) ?_
        refine r_iald X d_Model_differ_117 (by assumption) (by omega) (by omega) ?_
        rw [g6]
        refine r_iload X d_Model_differ_118 (by rfl) ?_
        first | refine r_isubN X d_Model_differ_120 (by omega) ?_ | refine r_isub X d_Model_differ_120 ?_
        refine r_cVv X lv_Model_93 (m_times (p := 80) (x := nI i) hm0 (by omega) rr6.2.2 (by omega)) (by assumption) (by decide) rfl (Nat.le_of_ble_eq_true rfl) d_Model_differ_121 rfl (fun S7 h7 => ?_)
        rw [rr6.2.1, em_nI (by omega), Nat.mod_eq_of_lt (by omega)] at h7
        have rr7 := rr6.t8 h7 (mtN_ok (wd_ok (wx.1.mono (by omega)) i))
        have ho7 : Out S6 S7 (m + 4) 1 := by rw [h7]; exact Out.ar (by omega) (by omega)
        rw [hwm] at rr7
        refine r_iincN X 1 d_Model_differ_124 (by rfl) (by decide) (by decide) ?_
        refine r_goto X d_Model_differ_127 (tgt := 25) (by decide) ?_
        refine ih (i + 1) S7 _ _ (by omega) rr7 ?_ ?_ ?_ ?_
        · rw [ho7.a1 (by omega), ho6.a1 (by omega)]; exact f5
        · rw [ho7.a2 (by omega), ho6.a2 (by omega), ho5.a2 (by omega)]; exact hz4
        · exact ((hV4.ex (ho5.ex (P := fun a => a = m + 5) (fun a h1 h2 => by omega)) (by omega) (by omega) (by omega)).ex (ho6.ex (P := fun a => a = m + 4) (fun a h1 h2 => by omega)) (by omega) (by omega) (by omega)).ex (ho7.ex (P := fun a => a = m + 4) (fun a h1 h2 => by omega)) (by omega) (by omega) (by omega)
        · exact ((hx4.trans (ho5.ex (fun a h1 h2 => by omega))).trans (ho6.ex (fun a h1 h2 => by omega))).trans (ho7.ex (fun a h1 h2 => by omega))
      have mid : ∀ v o4, v = (V x).2.1 i → J S4 74 [some (.ref m), some (.int (nI x)), some (.int (nI i)), some (.int (nI (sh1 (V x).2.1 i))), o4] [.int (nI v)] := by
        intro v o4 hv
        subst hv
        refine r_istore X d_Model_differ_74 (by decide) ?_
        refine r_aload_n X d_Model_differ_76 (by rfl) ?_
        refine r_get X lf_Model_22 d_Model_differ_77 (by assumption) (by rfl) ?_
        refine r_iload_n X d_Model_differ_80 (by rfl) ?_
        refine r_iload_n X d_Model_differ_81 (by rfl) ?_
        refine r_iload X d_Model_differ_82 (by rfl) ?_
        refine r_icmp_leN X d_Model_differ_84 (tgt := 91) (by decide) (by omega) (by omega) (fun hc => ?_) (fun hc => ?_)
        · refine r_iload X d_Model_differ_91 (by rfl) ?_
          exact st _ (by omega)
        · refine r_iload_n X d_Model_differ_87 (by rfl) ?_
          refine r_goto X d_Model_differ_88 (tgt := 93) (by decide) ?_
          exact st _ (by omega)
      have fst : ∀ u o3 o4, u = sh1 (V x).2.1 i → J S4 52 [some (.ref m), some (.int (nI x)), some (.int (nI i)), o3, o4] [.int (nI u)] := by
        intro u o3 o4 hu
        subst hu
        refine r_istore_n X d_Model_differ_52 (by decide) ?_
        refine r_iload_n X d_Model_differ_53 (by rfl) ?_
        refine r_bipush X (x := (nI 8)) d_Model_differ_54 (by decide) ?_
        refine r_icmp_neN X d_Model_differ_56 (tgt := 63) (by decide) (by omega) (by omega) (fun hc => ?_) (fun hc => ?_)
        · refine r_aload_n X d_Model_differ_63 (by rfl) ?_
          refine r_get X lf_Model_13 d_Model_differ_64 (by assumption) (by rfl) ?_
          refine r_bipush X (x := (nI 8)) d_Model_differ_67 (by decide) ?_
          refine r_iload_n X d_Model_differ_69 (by rfl) ?_
          first | refine r_imulN X d_Model_differ_70 ?_ | refine r_imul X d_Model_differ_70 ?_
          refine r_iload_n X d_Model_differ_71 (by rfl) ?_
          first | refine r_iaddN X d_Model_differ_72 ?_ | refine r_iadd X d_Model_differ_72 ?_
          refine r_iald X d_Model_differ_73 (by assumption) (by omega) (by omega) ?_
          rw [(hV4 x hx).2.1 i (by omega)]
          exact mid _ _ rfl
        · refine r_iconst X (x := (nI 0)) d_Model_differ_59 (by decide) ?_
          refine r_goto X d_Model_differ_60 (tgt := 74) (by decide) ?_
          refine mid 0 _ ?_
          rw [hc]
          exact x8.symm
      refine r_iload_n X d_Model_differ_25 (by rfl) ?_
      refine r_bipush X (x := (nI 9)) d_Model_differ_26 (by decide) ?_
      refine r_icmp_geN X d_Model_differ_28 (tgt := 130) (by decide) (by omega) (by omega) (fun hc => ?_) (fun hc => ?_)
      · omega
      · refine r_iload_n X d_Model_differ_31 (by rfl) ?_
        refine r_if_neN X d_Model_differ_32 (tgt := 39) (by decide) (by omega) (fun hc => ?_) (fun hc => ?_)
        · refine r_aload_n X d_Model_differ_39 (by rfl) ?_
          refine r_get X lf_Model_13 d_Model_differ_40 (by assumption) (by rfl) ?_
          refine r_bipush X (x := (nI 8)) d_Model_differ_43 (by decide) ?_
          refine r_iload_n X d_Model_differ_45 (by rfl) ?_
          first | refine r_imulN X d_Model_differ_46 ?_ | refine r_imul X d_Model_differ_46 ?_
          refine r_iload_n X d_Model_differ_47 (by rfl) ?_
          first | refine r_iaddN X d_Model_differ_48 ?_ | refine r_iadd X d_Model_differ_48 ?_
          refine r_iconst X (x := (nI 1)) d_Model_differ_49 (by decide) ?_
          first | refine r_isubN X d_Model_differ_50 (by omega) ?_ | refine r_isub X d_Model_differ_50 ?_
          refine r_iald X d_Model_differ_51 (by assumption) (by omega) (by omega) ?_
          rw [show 8 * x + i - 1 = 8 * x + (i - 1) by omega, (hV4 x hx).2.1 (i - 1) (by omega)]
          refine fst _ _ _ ?_
          unfold sh1
          rw [if_neg hc, if_pos (by omega)]
        · refine r_iconst X (x := (nI 0)) d_Model_differ_35 (by decide) ?_
          refine r_goto X d_Model_differ_36 (tgt := 52) (by decide) ?_
          refine fst 0 _ _ ?_
          unfold sh1
          rw [if_pos hc]
  refine r_iconst X (x := (nI 0)) d_Model_differ_23 (by decide) ?_
  refine r_istore_n X d_Model_differ_24 (by decide) ?_
  refine loop 9 0 S3 _ _ (by omega) rr3 ?_ ?_ hV3 ?_
  · rw [ho3.a1 (by omega), ho2.a1 (by omega), h5]
    funext j
    rw [if_neg (by omega)]
  · rw [ho3.a2 (by omega), ho2.a2 (by omega)]; exact hz
  · exact (hx1.trans (ho2.ex (fun a h1 h2 => by omega))).trans (ho3.ex (fun a h1 h2 => by omega))
theorem difN_ok (T : Tt) : okP 64 (difN T) := by
  unfold difN cmb
  exact ads_ok 64 _ _ _
theorem difE_ok {T : Tt} (h : wfT T) : okE (difE T) := mxE_ok (sh1_ok h.e) h.e
set_option maxHeartbeats 8000000 in
set_option maxRecDepth 100000 in
theorem m_difference {m : Nat} {d a : Int32} {V : Vt} (hm : isM G m) (hV : MI S m V) (hw : wfV V) : CT (mkE l D cI cT) G y_Model_difference b_Model_difference 3 (some .int) 6 [.ref m, .int d, .int a] S (Pi (fun S' r => ∃ V', O_diff V d a r V' ∧ MI S' m V' ∧ exM m S S')) := by
  have hM := hm.1
  refine mk_i (by decide) (eok l D cI cT) (by simp [Value.category]) (Nat.le_of_ble_eq_true rfl) (fun J X hR => ?_)
  show J S 0 [some (.ref m), some (.int d), some (.int a)] []
  have hbad : ¬ (sl d ∧ sl a) → J S 14 [some (.ref m), some (.int d), some (.int a)] [] := by
    intro h
    refine r_bipush X (x := (-9)) d_Model_difference_14 (by decide) ?_
    exact hR _ _ _ _ d_Model_difference_16 rfl ⟨_, rfl, V, Or.inl ⟨h, rfl, rfl⟩, hV, Ex.rf _ _⟩
  refine r_iload_n X d_Model_difference_0 (by rfl) ?_
  refine r_cSi X ls_Model_77 m_slot (by decide) rfl (Nat.le_of_ble_eq_true rfl) d_Model_difference_1 rfl (fun Sx rx hx => ?_)
  obtain ⟨hxs, hx⟩ := hx
  replace hxs := hxs.symm
  subst hxs
  rcases hx with ⟨rfl, g1⟩ | ⟨rfl, g1⟩
  rotate_left
  · refine r_if_eqN X d_Model_difference_4 (tgt := 14) (by decide) (by omega) (fun _ => ?_) (fun hc => absurd rfl hc)
    exact hbad (fun h => g1 h.1)
  refine r_if_eqN X d_Model_difference_4 (tgt := 14) (by decide) (by omega) (fun hc => absurd hc (by decide)) (fun _ => ?_)
  refine r_iload_n X d_Model_difference_7 (by rfl) ?_
  refine r_cSi X ls_Model_77 m_slot (by decide) rfl (Nat.le_of_ble_eq_true rfl) d_Model_difference_8 rfl (fun Sx rx hx => ?_)
  obtain ⟨hxs, hx⟩ := hx
  replace hxs := hxs.symm
  subst hxs
  rcases hx with ⟨rfl, g2⟩ | ⟨rfl, g2⟩
  rotate_left
  · refine r_if_neN X d_Model_difference_11 (tgt := 17) (by decide) (by omega) (fun hc => absurd rfl hc) (fun _ => ?_)
    exact hbad (fun h => g2 h.2)
  refine r_if_neN X d_Model_difference_11 (tgt := 17) (by decide) (by omega) (fun _ => ?_) (fun hc => absurd hc (by decide))
  obtain ⟨k, hk, rfl⟩ := g1
  obtain ⟨x, hx, rfl⟩ := g2
  refine r_aload_n X d_Model_difference_17 (by rfl) ?_
  refine r_iload_n X d_Model_difference_18 (by rfl) ?_
  refine r_cVv X lv_Model_103 (m_differ hm hx hV hw) (by assumption) (by decide) rfl (Nat.le_of_ble_eq_true rfl) d_Model_difference_19 rfl (fun S1 h1 => ?_)
  obtain ⟨h4, hg, h5, hz, hV1, hx1⟩ := h1
  refine r_aload_n X d_Model_difference_22 (by rfl) ?_
  refine r_iload_n X d_Model_difference_23 (by rfl) ?_
  refine r_cVi X lv_Model_84 (m_finish hm hk hV1 hg h4 (difN_ok (V x)) (difE_ok (hw x hx)) h5 hz) (by assumption) (by decide) rfl (Nat.le_of_ble_eq_true rfl) d_Model_difference_24 rfl (fun S2 r h2 => ?_)
  obtain ⟨V', h2, hV2, hg2, -, hx2⟩ := h2
  exact hR _ _ _ _ d_Model_difference_27 rfl ⟨_, rfl, V', Or.inr ⟨k, x, hk, hx, rfl, rfl, h2⟩, ⟨hV2, hg2⟩, (hx1.mono (fun a h => by omega)).trans (hx2.mono (fun a h => by omega))⟩
end M6
