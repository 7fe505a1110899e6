section M8
variable {l : Launch} {D : va_G} {cI cT : ClassId} {G : Gm} {S : Sg}
theorem ev_off (s : Nat → Fp) (m k : Nat) (x : Fp) : ev (fun i => if m ≤ i then s (i - m) else 0) (m + k) x = px x m * ev s k x := by
  rw [ev_split, ev_zero (fun i hi => by rw [if_neg (by omega)])]
  have h : ev (fun i => if m ≤ m + i then s (m + i - m) else 0) k x = ev s k x := ev_ext (fun i _ => by rw [if_pos (by omega), show m + i - m = i by omega]) _
  rw [h]
  grobner
theorem pv_prd {n L : Nat} {f g : Nat → Nat} (hg : ∀ i, L ≤ i → g i = 0) (x : Fp) : ∀ m, m + L ≤ n → pv (prd n m f g) n x = ev (fun i => fi (f i)) m x * pv g L x := by
  intro m
  induction m with
  | zero =>
    intro _
    have h : pv (prd n 0 f g) n x = 0 := ev_zero (fun i hi => by unfold prd; rw [if_pos hi]; rfl) _
    rw [h]
    simp only [ev]
    grobner
  | succ m ih =>
    intro hm
    have key : pv (prd n (m + 1) f g) n x = pv (prd n m f g) n x + ev (fun i => if m ≤ i then fi (f m) * fi (g (i - m)) else 0) n x := by
      unfold pv
      rw [← ev_add]
      refine ev_ext (fun k hk => ?_) _
      unfold prd
      rw [if_pos hk, if_pos hk]
      show fi (if m ≤ k then (cvr f g m k + f m * g (k - m)) % 10007 else cvr f g m k) = _
      by_cases h : m ≤ k
      · rw [if_pos h, if_pos h, fi_mod, fi_add, fi_mul]
      · rw [if_neg h, if_neg h]
        grobner
    rw [key, ih (by omega)]
    have h2 := ev_off (fun j => fi (f m) * fi (g j)) m (n - m) x
    rw [show m + (n - m) = n by omega, ev_smul] at h2
    have h3 : ev (fun j => fi (g j)) (n - m) x = pv g L x := pv_le (f := g) (n := L) (m := n - m) (by omega) hg x
    rw [h2, h3, ev_split]
    simp only [ev, Nat.add_zero]
    grobner
theorem pv_ads (n c : Nat) (f g : Nat → Nat) (x : Fp) : pv (ads n c f g) n x = pv f n x + fi c * pv g n x := by
  unfold pv
  rw [← ev_smul, ← ev_add]
  refine ev_ext (fun i hi => ?_) _
  unfold ads
  rw [if_pos hi, fi_mod, fi_add, fi_mul]
  grobner
def hml (A f : Nat → Nat) : Nat → Nat → Nat → Nat
  | 0, _ => fun _ => 0
  | t + 1, j => ads 80 (f j) (mt 80 0 (hml A f t (j + 1))) A
theorem hml_ok {A : Nat → Nat} (f : Nat → Nat) (hA : okP 32 A) : ∀ t j, t ≤ 32 → okP (32 + t) (hml A f t j) := by
  intro t
  induction t with
  | zero => intro j _; exact zero_ok _
  | succ t ih =>
    intro j ht
    have h := mt_w (b := 0) (ih (j + 1) (by omega)) (by omega)
    unfold hml
    rw [h.1]
    refine ⟨(ads_ok 80 _ _ _).1, fun i hi => ?_⟩
    unfold ads
    split
    · rw [h.2.2 i (by omega), hA.2 i (by omega), Nat.zero_mul]
    · rfl
theorem hml_pv {A : Nat → Nat} (f : Nat → Nat) (hA : okP 32 A) (x : Fp) : ∀ t j, t ≤ 32 → pv (hml A f t j) 80 x = ev (fun i => fi (f (j + i))) t x * pv A 32 x := by
  intro t
  induction t with
  | zero =>
    intro j _
    unfold hml pv
    rw [show ev (fun j => fi ((fun _ => 0) j)) 80 x = 0 from ev_zero (fun _ _ => rfl) x]
    show (0 : Fp) = 0 * _
    grobner
  | succ t ih =>
    intro j ht
    unfold hml
    rw [pv_ads, pv_mt (m := 32 + t) (by omega) (hml_ok f hA t (j + 1) (by omega)).2, ih (j + 1) (by omega), pv_le (f := A) (m := 80) (n := 32) (by omega) hA.2]
    simp only [ev, Nat.add_zero]
    have h : ev (fun i => fi (f (j + 1 + i))) t x = ev (fun i => fi (f (j + (i + 1)))) t x := ev_ext (fun i _ => by rw [show j + 1 + i = j + (i + 1) by omega]) _
    rw [h, fi_0]
    grobner
theorem mul_w {A f : Nat → Nat} (hA : okP 32 A) (hf : okP 32 f) : hml A f 32 0 = prd 64 32 A f := by
  have h1 := hml_ok f hA 32 0 (by omega)
  refine pv_eq (n := 64) (by omega) (h1.mono (by omega)) (prd_ok 64 32 A f) (fun x _ => ?_)
  rw [← pv_le (m := 80) (n := 64) (by omega) (fun i hi => h1.2 i (by omega)), hml_pv f hA x 32 0 (by omega), pv_prd (L := 32) hf.2 x 32 (by omega)]
  have h : ev (fun i => fi (f (0 + i))) 32 x = pv f 32 x := ev_ext (fun i _ => by rw [Nat.zero_add]) _
  rw [h]
  show pv f 32 x * pv A 32 x = pv A 32 x * pv f 32 x
  grobner
set_option maxHeartbeats 8000000 in
set_option maxRecDepth 100000 in
theorem m_multiply {m : Nat} {s c b : Int32} {V : Vt} (hm : isM G m) (hV : MI S m V) (hw : wfV V) : CT (mkE l D cI cT) G y_Model_multiply b_Model_multiply 5 (some .int) 6 [.ref m, .int s, .int c, .int b] S (Pi (fun S' r => ∃ V', O_mul V s c b r V' ∧ MI S' m V' ∧ exM m S S')) := by
  have hm0 := hm
  obtain ⟨hM, hco, hex, hra, hpo, hbe, hwe, hro, hle, hva⟩ := hm
  refine mk_i (by decide) (eok l D cI cT) (by simp [Value.category]) (Nat.le_of_ble_eq_true rfl) (fun J X hR => ?_)
  show J S 0 [some (.ref m), some (.int s), some (.int c), some (.int b), none] []
  have hbad : ¬ (sl s ∧ sl c ∧ sl b) → J S 21 [some (.ref m), some (.int s), some (.int c), some (.int b), none] [] := by
    intro h
    refine r_bipush X (x := (-9)) d_Model_multiply_21 (by decide) ?_
    exact hR _ _ _ _ d_Model_multiply_23 rfl ⟨_, rfl, V, Or.inl ⟨h, rfl, rfl⟩, hV, Ex.rf _ _⟩
  refine r_iload_n X d_Model_multiply_0 (by rfl) ?_
  refine r_cSi X ls_Model_77 m_slot (by decide) rfl (Nat.le_of_ble_eq_true rfl) d_Model_multiply_1 rfl (fun Sx rx hx => ?_)
  obtain ⟨hxs, hx⟩ := hx
  replace hxs := hxs.symm
  subst hxs
  rcases hx with ⟨rfl, g1⟩ | ⟨rfl, g1⟩
  rotate_left
  · refine r_if_eqN X d_Model_multiply_4 (tgt := 21) (by decide) (by omega) (fun _ => ?_) (fun hc => absurd rfl hc)
    exact hbad (fun h => g1 h.1)
  refine r_if_eqN X d_Model_multiply_4 (tgt := 21) (by decide) (by omega) (fun hc => absurd hc (by decide)) (fun _ => ?_)
  refine r_iload_n X d_Model_multiply_7 (by rfl) ?_
  refine r_cSi X ls_Model_77 m_slot (by decide) rfl (Nat.le_of_ble_eq_true rfl) d_Model_multiply_8 rfl (fun Sx rx hx => ?_)
  obtain ⟨hxs, hx⟩ := hx
  replace hxs := hxs.symm
  subst hxs
  rcases hx with ⟨rfl, g2⟩ | ⟨rfl, g2⟩
  rotate_left
  · refine r_if_eqN X d_Model_multiply_11 (tgt := 21) (by decide) (by omega) (fun _ => ?_) (fun hc => absurd rfl hc)
    exact hbad (fun h => g2 h.2.1)
  refine r_if_eqN X d_Model_multiply_11 (tgt := 21) (by decide) (by omega) (fun hc => absurd hc (by decide)) (fun _ => ?_)
  refine r_iload_n X d_Model_multiply_14 (by rfl) ?_
  refine r_cSi X ls_Model_77 m_slot (by decide) rfl (Nat.le_of_ble_eq_true rfl) d_Model_multiply_15 rfl (fun Sx rx hx => ?_)
  obtain ⟨hxs, hx⟩ := hx
  replace hxs := hxs.symm
  subst hxs
  rcases hx with ⟨rfl, g3⟩ | ⟨rfl, g3⟩
  rotate_left
  · refine r_if_neN X d_Model_multiply_18 (tgt := 24) (by decide) (by omega) (fun hc => absurd rfl hc) (fun _ => ?_)
    exact hbad (fun h => g3 h.2.2)
  refine r_if_neN X d_Model_multiply_18 (tgt := 24) (by decide) (by omega) (fun _ => ?_) (fun hc => absurd hc (by decide))
  obtain ⟨k, hk, rfl⟩ := g1
  obtain ⟨x, hx, rfl⟩ := g2
  obtain ⟨y, hy, rfl⟩ := g3
  have wx := hw x hx
  have wy := hw y hy
  have rx := hV.1 x hx
  have ry := hV.1 y hy
  have hmlb := mul_bd wx.2.2.2.2 wy.2.2.2.2
  refine r_aload_n X d_Model_multiply_24 (by rfl) ?_
  refine r_aload_n X d_Model_multiply_25 (by rfl) ?_
  refine r_get X lf_Model_16 d_Model_multiply_26 (by assumption) (by rfl) ?_
  refine r_iload_n X d_Model_multiply_29 (by rfl) ?_
  refine r_iald X d_Model_multiply_30 (by assumption) (by omega) (by omega) ?_
  rw [rx.2.2]
  refine r_aload_n X d_Model_multiply_31 (by rfl) ?_
  refine r_get X lf_Model_16 d_Model_multiply_32 (by assumption) (by rfl) ?_
  refine r_iload_n X d_Model_multiply_35 (by rfl) ?_
  refine r_iald X d_Model_multiply_36 (by assumption) (by omega) (by omega) ?_
  rw [ry.2.2]
  first | refine r_imulN X d_Model_multiply_37 ?_ | refine r_imul X d_Model_multiply_37 ?_
  refine r_sipush X (x := (nI 10007)) d_Model_multiply_38 (by decide) ?_
  refine r_iremN X d_Model_multiply_41 (by decide) (by decide) (by omega) ?_
  refine r_cVv X lv_Model_56 (m_fresh (z := (V x).2.2 * (V y).2.2 % 10007) hm0) (by assumption) (by decide) rfl (Nat.le_of_ble_eq_true rfl) d_Model_multiply_42 rfl (fun S1 h1 => ?_)
  obtain ⟨h4, h5, hz, hx1⟩ := h1
  have hV1 : RepM S1 m V := hV.1.ex hx1 (by omega) (by omega) (by omega)
  have hg1 : okG (S1.1 (m + 4)) := by rw [h4]; exact hV.2.rst 0 (zero_ok 80)
  have rr1 : rr S1 m (fun _ => 0) (rowf (S1.1 (m + 4)) 80) := ⟨by rw [h4]; exact rowf_rst (zero_ok 80), rfl, hg1⟩
  refine r_aload_n X d_Model_multiply_45 (by rfl) ?_
  refine r_bipush X (x := (nI 80)) d_Model_multiply_46 (by decide) ?_
  refine r_iload_n X d_Model_multiply_48 (by rfl) ?_
  refine r_cVv X lv_Model_90 (m_load (p := 80) (s := x) hm0 (by omega) hx) (by assumption) (by decide) rfl (Nat.le_of_ble_eq_true rfl) d_Model_multiply_49 rfl (fun S2 h2 => ?_)
  rw [crw_eq hV1 hx wx.1] at h2
  have rr2 := rr1.t8 h2 (wx.1.mono (by omega))
  have ho2 : Out S1 S2 (m + 4) 1 := by rw [h2]; exact Out.ar (by omega) (by omega)
  have hV2 : RepM S2 m V := hV1.ex (ho2.ex (P := fun a => a = m + 4) (fun a h1 h2 => by omega)) (by omega) (by omega) (by omega)
  have e2 : S2.1 (m + 5) = fun _ => 0 := by rw [ho2.a1 (by omega)]; exact h5
  have z2 : S2.2 m = nI ((V x).2.2 * (V y).2.2 % 10007) := by rw [ho2.a2 (by omega)]; exact hz
  have hx2 : exG m S S2 := hx1.trans (ho2.ex (fun a h1 h2 => by omega))
  have loop2 : ∀ n i S4, i + n = 8 → rr S4 m (mulN (V x) (V y)) (V x).1 → S4.1 (m + 5) = (fun j => if j < i then (V x).2.1 j + (V y).2.1 j else 0) → S4.2 m = nI ((V x).2.2 * (V y).2.2 % 10007) → RepM S4 m V → exG m S S4 → J S4 96 [some (.ref m), some (.int (nI k)), some (.int (nI x)), some (.int (nI y)), some (.int (nI i))] [] := by
    intro n
    induction n with
    | zero =>
      intro i S4 hi hrr hb5 hz4 hV4 hx4
      have hmx : S4.1 (m + 5) = mulE (V x) (V y) := by
        rw [hb5]
        funext j
        unfold mulE
        by_cases hj : j < i
        · rw [if_pos hj]
        · rw [if_neg hj, wx.2.2.1 j (by omega), wy.2.2.1 j (by omega)]
      have hoE : okE (mulE (V x) (V y)) := by
        refine ⟨fun j => ?_, fun j hj => ?_⟩
        · have := wx.2.1 j
          have := wy.2.1 j
          show (V x).2.1 j + (V y).2.1 j < 100
          omega
        · show (V x).2.1 j + (V y).2.1 j = 0
          rw [wx.2.2.1 j (by omega), wy.2.2.1 j (by omega)]
      refine r_iload X d_Model_multiply_96 (by rfl) ?_
      refine r_bipush X (x := (nI 8)) d_Model_multiply_98 (by decide) ?_
      refine r_icmp_geN X d_Model_multiply_100 (tgt := 141) (by decide) (by omega) (by omega) (fun hc => ?_) (fun hc => ?_)
      · refine r_aload_n X d_Model_multiply_141 (by rfl) ?_
        refine r_iload_n X d_Model_multiply_142 (by rfl) ?_
        refine r_cVi X lv_Model_84 (m_finish (f := mulN (V x) (V y)) (e := mulE (V x) (V y)) hm0 hk hV4 hrr.2.2 hrr.1 (prd_ok 64 32 _ _) hoE hmx hz4) (by assumption) (by decide) rfl (Nat.le_of_ble_eq_true rfl) d_Model_multiply_143 rfl (fun S6 r h6 => ?_)
        obtain ⟨V', h6, hV6, hg6, -, hx6⟩ := h6
        exact hR _ _ _ _ d_Model_multiply_146 rfl ⟨_, rfl, V', Or.inr ⟨k, x, y, hk, hx, hy, rfl, rfl, rfl, h6⟩, ⟨hV6, hg6⟩, (hx4.mono (fun a h => by omega)).trans (hx6.mono (fun a h => by omega))⟩
      · omega
    | succ n ih =>
      intro i S4 hi hrr hb5 hz4 hV4 hx4
      have e1 := (hV4 x hx).2.1 i (by omega)
      have e2 := (hV4 y hy).2.1 i (by omega)
      refine r_iload X d_Model_multiply_96 (by rfl) ?_
      refine r_bipush X (x := (nI 8)) d_Model_multiply_98 (by decide) ?_
      refine r_icmp_geN X d_Model_multiply_100 (tgt := 141) (by decide) (by omega) (by omega) (fun hc => ?_) (fun hc => ?_)
      · omega
      · refine r_aload_n X d_Model_multiply_103 (by rfl) ?_
        refine r_get X lf_Model_22 d_Model_multiply_104 (by assumption) (by rfl) ?_
        refine r_iload X d_Model_multiply_107 (by rfl) ?_
        refine r_aload_n X d_Model_multiply_109 (by rfl) ?_
        refine r_get X lf_Model_13 d_Model_multiply_110 (by assumption) (by rfl) ?_
        refine r_bipush X (x := (nI 8)) d_Model_multiply_113 (by decide) ?_
        refine r_iload_n X d_Model_multiply_115 (by rfl) ?_
        first | refine r_imulN X d_Model_multiply_116 ?_ | refine r_imul X d_Model_multiply_116 ?_
        refine r_iload X d_Model_multiply_117 (by rfl) ?_
        first | refine r_iaddN X d_Model_multiply_119 ?_ | refine r_iadd X d_Model_multiply_119 ?_
        refine r_iald X d_Model_multiply_120 (by assumption) (by omega) (by omega) ?_
        rw [e1]
        refine r_aload_n X d_Model_multiply_121 (by rfl) ?_
        refine r_get X lf_Model_13 d_Model_multiply_122 (by assumption) (by rfl) ?_
        refine r_bipush X (x := (nI 8)) d_Model_multiply_125 (by decide) ?_
        refine r_iload_n X d_Model_multiply_127 (by rfl) ?_
        first | refine r_imulN X d_Model_multiply_128 ?_ | refine r_imul X d_Model_multiply_128 ?_
        refine r_iload X d_Model_multiply_129 (by rfl) ?_
        first | refine r_iaddN X d_Model_multiply_131 ?_ | refine r_iadd X d_Model_multiply_131 ?_
        refine r_iald X d_Model_multiply_132 (by assumption) (by omega) (by omega) ?_
        rw [e2]
        first | refine r_iaddN X d_Model_multiply_133 ?_ | refine r_iadd X d_Model_multiply_133 ?_
        refine r_iast X d_Model_multiply_134 (by assumption) (by omega) (by omega) ?_
        refine r_iincN X 1 d_Model_multiply_135 (by rfl) (by decide) (by decide) ?_
        refine r_goto X d_Model_multiply_138 (tgt := 96) (by decide) ?_
        have ho5 : Out S4 (arS S4 (m + 5) (va_up (S4.1 (m + 5)) i ((V x).2.1 i + (V y).2.1 i))) (m + 5) 1 := Out.ar (by omega) (by omega)
        refine ih (i + 1) _ (by omega) (hrr.ex (ho5.a1 (by omega))) ?_ (by rw [ho5.a2 (by omega)]; exact hz4) (hV4.ex (ho5.ex (P := fun a => a = m + 5) (fun a h1 h2 => by omega)) (by omega) (by omega) (by omega)) (hx4.trans (ho5.ex (fun a h1 h2 => by omega)))
        rw [arS_1, hb5]
        funext j
        by_cases hj : j = i
        · rw [hj, va_up_s, if_pos (by omega)]
        · rw [va_up_n hj]
          by_cases hj2 : j < i
          · rw [if_pos hj2, if_pos (by omega)]
          · rw [if_neg hj2, if_neg (by omega)]
  have loop : ∀ t S4, t ≤ 32 → rr S4 m (hml (V x).1 (V y).1 (32 - t) t) (V x).1 → S4.1 (m + 5) = (fun _ => 0) → S4.2 m = nI ((V x).2.2 * (V y).2.2 % 10007) → RepM S4 m V → exG m S S4 → J S4 56 [some (.ref m), some (.int (nI k)), some (.int (nI x)), some (.int (nI y)), some (.int (tI t))] [] := by
    intro t
    induction t with
    | zero =>
      intro S4 ht hrr hb5 hz4 hV4 hx4
      refine r_iload X d_Model_multiply_56 (by rfl) ?_
      refine r_if_ltT X d_Model_multiply_58 (tgt := 93) (by decide) (by omega) (fun hc => ?_) (fun uu hc => ?_)
      · refine r_iconst X (x := (nI 0)) d_Model_multiply_93 (by decide) ?_
        refine r_istore X d_Model_multiply_94 (by decide) ?_
        refine loop2 8 0 S4 (by omega) ?_ ?_ hz4 hV4 hx4
        · rw [show mulN (V x) (V y) = hml (V x).1 (V y).1 32 0 from (mul_w wx.1 wy.1).symm]
          exact hrr
        · rw [hb5]
          funext j
          rw [if_neg (by omega)]
      · omega
    | succ t ih =>
      intro S4 ht hrr hb5 hz4 hV4 hx4
      have bt := wy.1.1 t
      refine r_iload X d_Model_multiply_56 (by rfl) ?_
      refine r_if_ltT X d_Model_multiply_58 (tgt := 93) (by decide) (by omega) (fun hc => ?_) (fun uu hc => ?_)
      · omega
      · rw [tI_s]
        refine r_aload_n X d_Model_multiply_61 (by rfl) ?_
        refine r_iconst X (x := (nI 0)) d_Model_multiply_62 (by decide) ?_
        refine r_iconst X (x := (nI 0)) d_Model_multiply_63 (by decide) ?_
        refine r_iconst X (x := (nI 1)) d_Model_multiply_64 (by decide) ?_
        refine r_cVv X lv_Model_93 (m_times (p := 0) (x := nI 0) (n := 1) hm0 (by omega) hrr.2.2 (by omega)) (by assumption) (by decide) rfl (Nat.le_of_ble_eq_true rfl) d_Model_multiply_65 rfl (fun S5 h5' => ?_)
        rw [hrr.1, em_nI (by decide), Nat.mod_eq_of_lt (by decide)] at h5'
        have rr5 := hrr.t0 h5' (mt_ok 80 0 _)
        have ho5 : Out S4 S5 (m + 4) 1 := by rw [h5']; exact Out.ar (by omega) (by omega)
        have hV5 : RepM S5 m V := hV4.ex (ho5.ex (P := fun a => a = m + 4) (fun a h1 h2 => by omega)) (by omega) (by omega) (by omega)
        refine r_aload_n X d_Model_multiply_68 (by rfl) ?_
        refine r_iconst X (x := (nI 0)) d_Model_multiply_69 (by decide) ?_
        refine r_bipush X (x := (nI 80)) d_Model_multiply_70 (by decide) ?_
        refine r_aload_n X d_Model_multiply_72 (by rfl) ?_
        refine r_get X lf_Model_7 d_Model_multiply_73 (by assumption) (by rfl) ?_
        refine r_bipush X (x := (nI 32)) d_Model_multiply_76 (by decide) ?_
        refine r_iload_n X d_Model_multiply_78 (by rfl) ?_
        first | refine r_imulN X d_Model_multiply_79 ?_ | refine r_imul X d_Model_multiply_79 ?_
        refine r_iload X d_Model_multiply_80 (by rfl) ?_
        first | refine r_iaddN X d_Model_multiply_82 ?_ | refine r_iadd X d_Model_multiply_82 ?_
        refine r_iald X d_Model_multiply_83 (by assumption) (by omega) (by omega) ?_
        rw [(hV5 y hy).1 t (by omega)]
        refine r_cVv X lv_Model_97 (m_addRow (p := 0) (q := 80) (c := (V y).1 t) hm0 (by omega) (by omega) (by omega) rr5.2.2 (by omega)) (by assumption) (by decide) rfl (Nat.le_of_ble_eq_true rfl) d_Model_multiply_84 rfl (fun S6 h6 => ?_)
        rw [rr5.1, rr5.2.1] at h6
        have rr6 := rr5.t0 h6 (ads_ok 80 _ _ _)
        have ho6 : Out S5 S6 (m + 4) 1 := by rw [h6]; exact Out.ar (by omega) (by omega)
        refine r_iincD X d_Model_multiply_87 (by rfl) (by decide) ?_
        refine r_goto X d_Model_multiply_90 (tgt := 56) (by decide) ?_
        refine ih S6 (by omega) ?_ (by rw [ho6.a1 (by omega), ho5.a1 (by omega)]; exact hb5) (by rw [ho6.a2 (by omega), ho5.a2 (by omega)]; exact hz4) (hV5.ex (ho6.ex (P := fun a => a = m + 4) (fun a h1 h2 => by omega)) (by omega) (by omega) (by omega)) ((hx4.trans (ho5.ex (fun a h1 h2 => by omega))).trans (ho6.ex (fun a h1 h2 => by omega)))
        rw [show 32 - t = (32 - (t + 1)) + 1 by omega]
        exact rr6
  refine r_bipush X (x := tI 32) d_Model_multiply_52 (by decide) ?_
  refine r_istore X d_Model_multiply_54 (by decide) ?_
  exact loop 32 S2 (by omega) rr2 e2 z2 hV2 hx2
set_option maxHeartbeats 8000000 in
set_option maxRecDepth 100000 in
theorem m_same {m : Nat} {d a : Int32} {V : Vt} (hm : isM G m) (hV : MI S m V) (hw : wfV V) : CT (mkE l D cI cT) G y_Model_same b_Model_same 5 (some .boolean) 6 [.ref m, .int d, .int a] S (Pi (fun S' r => O_same V d a r ∧ S' = S)) := by
  have hm0 := hm
  obtain ⟨hM, hco, hex, hra, hpo, hbe, hwe, hro, hle, hva⟩ := hm
  refine mk_i (by decide) (eok l D cI cT) (by simp [Value.category]) (Nat.le_of_ble_eq_true rfl) (fun J X hR => ?_)
  show J S 0 [some (.ref m), some (.int d), some (.int a), none, none] []
  have hbad : ¬ (sl d ∧ sl a) → J S 14 [some (.ref m), some (.int d), some (.int a), none, none] [] := by
    intro h
    refine r_iconst X (x := (nI 0)) d_Model_same_14 (by decide) ?_
    exact hR _ _ _ _ d_Model_same_15 (by decide) ⟨_, rfl, Or.inl ⟨h, rfl⟩, rfl⟩
  refine r_iload_n X d_Model_same_0 (by rfl) ?_
  refine r_cSi X ls_Model_77 m_slot (by decide) rfl (Nat.le_of_ble_eq_true rfl) d_Model_same_1 rfl (fun Sx rx hx => ?_)
  obtain ⟨hxs, hx⟩ := hx
  replace hxs := hxs.symm
  subst hxs
  rcases hx with ⟨rfl, g1⟩ | ⟨rfl, g1⟩
  rotate_left
  · refine r_if_eqN X d_Model_same_4 (tgt := 14) (by decide) (by omega) (fun _ => ?_) (fun hc => absurd rfl hc)
    exact hbad (fun h => g1 h.1)
  refine r_if_eqN X d_Model_same_4 (tgt := 14) (by decide) (by omega) (fun hc => absurd hc (by decide)) (fun _ => ?_)
  refine r_iload_n X d_Model_same_7 (by rfl) ?_
  refine r_cSi X ls_Model_77 m_slot (by decide) rfl (Nat.le_of_ble_eq_true rfl) d_Model_same_8 rfl (fun Sx rx hx => ?_)
  obtain ⟨hxs, hx⟩ := hx
  replace hxs := hxs.symm
  subst hxs
  rcases hx with ⟨rfl, g2⟩ | ⟨rfl, g2⟩
  rotate_left
  · refine r_if_neN X d_Model_same_11 (tgt := 16) (by decide) (by omega) (fun hc => absurd rfl hc) (fun _ => ?_)
    exact hbad (fun h => g2 h.2)
  refine r_if_neN X d_Model_same_11 (tgt := 16) (by decide) (by omega) (fun _ => ?_) (fun hc => absurd hc (by decide))
  obtain ⟨k, hk, rfl⟩ := g1
  obtain ⟨x, hx, rfl⟩ := g2
  have wk := hw k hk
  have wx := hw x hx
  have rk := hV.1 k hk
  have rx := hV.1 x hx
  have loop2 : ∀ n i v, i + n = 8 → ((v = nI 1 ∧ (V k).2.2 = (V x).2.2 ∧ (∀ j, j < 32 → (V k).1 j = (V x).1 j) ∧ (∀ j, j < i → (V k).2.1 j = (V x).2.1 j)) ∨ (v = nI 0 ∧ ¬ ((V k).1 = (V x).1 ∧ (V k).2.1 = (V x).2.1 ∧ (V k).2.2 = (V x).2.2))) → J S 93 [some (.ref m), some (.int (nI k)), some (.int (nI x)), some (.int v), some (.int (nI i))] [] := by
    intro n
    induction n with
    | zero =>
      intro i v hi hv
      refine r_iload X d_Model_same_93 (by rfl) ?_
      refine r_bipush X (x := (nI 8)) d_Model_same_95 (by decide) ?_
      refine r_icmp_geN X d_Model_same_97 (tgt := 143) (by decide) (by omega) (by omega) (fun hc => ?_) (fun hc => ?_)
      · refine r_iload_n X d_Model_same_143 (by rfl) ?_
        rcases hv with ⟨rfl, hv2, hv3, hv4⟩ | ⟨rfl, hv⟩
        · refine hR _ _ _ _ d_Model_same_144 (by decide) ⟨_, rfl, Or.inr ⟨k, x, hk, hx, rfl, rfl, Or.inl ⟨rfl, ?_, ?_, hv2⟩⟩, rfl⟩
          · funext j
            by_cases hj : j < 32
            · exact hv3 j hj
            · rw [wx.1.2 j (by omega), wk.1.2 j (by omega)]
          · funext j
            by_cases hj : j < 8
            · exact hv4 j (by omega)
            · rw [wx.2.2.1 j (by omega), wk.2.2.1 j (by omega)]
        · exact hR _ _ _ _ d_Model_same_144 (by decide) ⟨_, rfl, Or.inr ⟨k, x, hk, hx, rfl, rfl, Or.inr ⟨rfl, hv⟩⟩, rfl⟩
      · omega
    | succ n ih =>
      intro i v hi hv
      have no : ¬ ((V k).1 = (V x).1 ∧ (V k).2.1 = (V x).2.1 ∧ (V k).2.2 = (V x).2.2) → J S 135 [some (.ref m), some (.int (nI k)), some (.int (nI x)), some (.int v), some (.int (nI i))] [] := by
        intro h
        refine r_iconst X (x := (nI 0)) d_Model_same_135 (by decide) ?_
        refine r_istore_n X d_Model_same_136 (by decide) ?_
        refine r_iincN X 1 d_Model_same_137 (by rfl) (by decide) (by decide) ?_
        refine r_goto X d_Model_same_140 (tgt := 93) (by decide) ?_
        exact ih (i + 1) _ (by omega) (Or.inr ⟨rfl, h⟩)
      refine r_iload X d_Model_same_93 (by rfl) ?_
      refine r_bipush X (x := (nI 8)) d_Model_same_95 (by decide) ?_
      refine r_icmp_geN X d_Model_same_97 (tgt := 143) (by decide) (by omega) (by omega) (fun hc => ?_) (fun hc => ?_)
      · omega
      · refine r_iload_n X d_Model_same_100 (by rfl) ?_
        rcases hv with ⟨rfl, hv2, hv3, hv4⟩ | ⟨rfl, hv⟩
        · refine r_if_eqN X d_Model_same_101 (tgt := 135) (by decide) (by omega) (fun hc => ?_) (fun hc => ?_)
          · omega
          · refine r_aload_n X d_Model_same_104 (by rfl) ?_
            refine r_get X lf_Model_13 d_Model_same_105 (by assumption) (by rfl) ?_
            refine r_bipush X (x := (nI 8)) d_Model_same_108 (by decide) ?_
            refine r_iload_n X d_Model_same_110 (by rfl) ?_
            first | refine r_imulN X d_Model_same_111 ?_ | refine r_imul X d_Model_same_111 ?_
            refine r_iload X d_Model_same_112 (by rfl) ?_
            first | refine r_iaddN X d_Model_same_114 ?_ | refine r_iadd X d_Model_same_114 ?_
            refine r_iald X d_Model_same_115 (by assumption) (by omega) (by omega) ?_
            rw [rk.2.1 i (by omega)]
            refine r_aload_n X d_Model_same_116 (by rfl) ?_
            refine r_get X lf_Model_13 d_Model_same_117 (by assumption) (by rfl) ?_
            refine r_bipush X (x := (nI 8)) d_Model_same_120 (by decide) ?_
            refine r_iload_n X d_Model_same_122 (by rfl) ?_
            first | refine r_imulN X d_Model_same_123 ?_ | refine r_imul X d_Model_same_123 ?_
            refine r_iload X d_Model_same_124 (by rfl) ?_
            first | refine r_iaddN X d_Model_same_126 ?_ | refine r_iadd X d_Model_same_126 ?_
            refine r_iald X d_Model_same_127 (by assumption) (by omega) (by omega) ?_
            rw [rx.2.1 i (by omega)]
            have be := wk.2.1 i
            have bf := wx.2.1 i
            refine r_icmp_neN X d_Model_same_128 (tgt := 135) (by decide) (by omega) (by omega) (fun hc => ?_) (fun hc => ?_)
            · exact no (fun h => hc (by rw [h.2.1]))
            · refine r_iconst X (x := (nI 1)) d_Model_same_131 (by decide) ?_
              refine r_goto X d_Model_same_132 (tgt := 136) (by decide) ?_
              refine r_istore_n X d_Model_same_136 (by decide) ?_
              refine r_iincN X 1 d_Model_same_137 (by rfl) (by decide) (by decide) ?_
              refine r_goto X d_Model_same_140 (tgt := 93) (by decide) ?_
              refine ih (i + 1) _ (by omega) (Or.inl ⟨rfl, hv2, hv3, fun j hj => ?_⟩)
              by_cases e : j = i
              · rw [e]; exact hc
              · exact hv4 j (by omega)
        · refine r_if_eqN X d_Model_same_101 (tgt := 135) (by decide) (by omega) (fun hc => ?_) (fun hc => ?_)
          · exact no hv
          · omega
  have loop1 : ∀ n i v, i + n = 32 → ((v = nI 1 ∧ (V k).2.2 = (V x).2.2 ∧ (∀ j, j < i → (V k).1 j = (V x).1 j)) ∨ (v = nI 0 ∧ ¬ ((V k).1 = (V x).1 ∧ (V k).2.1 = (V x).2.1 ∧ (V k).2.2 = (V x).2.2))) → J S 40 [some (.ref m), some (.int (nI k)), some (.int (nI x)), some (.int v), some (.int (nI i))] [] := by
    intro n
    induction n with
    | zero =>
      intro i v hi hv
      refine r_iload X d_Model_same_40 (by rfl) ?_
      refine r_bipush X (x := (nI 32)) d_Model_same_42 (by decide) ?_
      refine r_icmp_geN X d_Model_same_44 (tgt := 90) (by decide) (by omega) (by omega) (fun hc => ?_) (fun hc => ?_)
      · refine r_iconst X (x := (nI 0)) d_Model_same_90 (by decide) ?_
        refine r_istore X d_Model_same_91 (by decide) ?_
        refine loop2 8 0 v (by omega) ?_
        rcases hv with ⟨e, hv2, hv3⟩ | hv
        · exact Or.inl ⟨e, hv2, fun j hj => hv3 j (by omega), fun j hj => absurd hj (by omega)⟩
        · exact Or.inr hv
      · omega
    | succ n ih =>
      intro i v hi hv
      have no : ¬ ((V k).1 = (V x).1 ∧ (V k).2.1 = (V x).2.1 ∧ (V k).2.2 = (V x).2.2) → J S 82 [some (.ref m), some (.int (nI k)), some (.int (nI x)), some (.int v), some (.int (nI i))] [] := by
        intro h
        refine r_iconst X (x := (nI 0)) d_Model_same_82 (by decide) ?_
        refine r_istore_n X d_Model_same_83 (by decide) ?_
        refine r_iincN X 1 d_Model_same_84 (by rfl) (by decide) (by decide) ?_
        refine r_goto X d_Model_same_87 (tgt := 40) (by decide) ?_
        exact ih (i + 1) _ (by omega) (Or.inr ⟨rfl, h⟩)
      refine r_iload X d_Model_same_40 (by rfl) ?_
      refine r_bipush X (x := (nI 32)) d_Model_same_42 (by decide) ?_
      refine r_icmp_geN X d_Model_same_44 (tgt := 90) (by decide) (by omega) (by omega) (fun hc => ?_) (fun hc => ?_)
      · omega
      · refine r_iload_n X d_Model_same_47 (by rfl) ?_
        rcases hv with ⟨rfl, hv2, hv3⟩ | ⟨rfl, hv⟩
        · refine r_if_eqN X d_Model_same_48 (tgt := 82) (by decide) (by omega) (fun hc => ?_) (fun hc => ?_)
          · omega
          · refine r_aload_n X d_Model_same_51 (by rfl) ?_
            refine r_get X lf_Model_7 d_Model_same_52 (by assumption) (by rfl) ?_
            refine r_bipush X (x := (nI 32)) d_Model_same_55 (by decide) ?_
            refine r_iload_n X d_Model_same_57 (by rfl) ?_
            first | refine r_imulN X d_Model_same_58 ?_ | refine r_imul X d_Model_same_58 ?_
            refine r_iload X d_Model_same_59 (by rfl) ?_
            first | refine r_iaddN X d_Model_same_61 ?_ | refine r_iadd X d_Model_same_61 ?_
            refine r_iald X d_Model_same_62 (by assumption) (by omega) (by omega) ?_
            rw [rk.1 i (by omega)]
            refine r_aload_n X d_Model_same_63 (by rfl) ?_
            refine r_get X lf_Model_7 d_Model_same_64 (by assumption) (by rfl) ?_
            refine r_bipush X (x := (nI 32)) d_Model_same_67 (by decide) ?_
            refine r_iload_n X d_Model_same_69 (by rfl) ?_
            first | refine r_imulN X d_Model_same_70 ?_ | refine r_imul X d_Model_same_70 ?_
            refine r_iload X d_Model_same_71 (by rfl) ?_
            first | refine r_iaddN X d_Model_same_73 ?_ | refine r_iadd X d_Model_same_73 ?_
            refine r_iald X d_Model_same_74 (by assumption) (by omega) (by omega) ?_
            rw [rx.1 i (by omega)]
            have be := wk.1.1 i
            have bf := wx.1.1 i
            refine r_icmp_neN X d_Model_same_75 (tgt := 82) (by decide) (by omega) (by omega) (fun hc => ?_) (fun hc => ?_)
            · exact no (fun h => hc (by rw [h.1]))
            · refine r_iconst X (x := (nI 1)) d_Model_same_78 (by decide) ?_
              refine r_goto X d_Model_same_79 (tgt := 83) (by decide) ?_
              refine r_istore_n X d_Model_same_83 (by decide) ?_
              refine r_iincN X 1 d_Model_same_84 (by rfl) (by decide) (by decide) ?_
              refine r_goto X d_Model_same_87 (tgt := 40) (by decide) ?_
              refine ih (i + 1) _ (by omega) (Or.inl ⟨rfl, hv2, fun j hj => ?_⟩)
              by_cases e : j = i
              · rw [e]; exact hc
              · exact hv3 j (by omega)
        · refine r_if_eqN X d_Model_same_48 (tgt := 82) (by decide) (by omega) (fun hc => ?_) (fun hc => ?_)
          · exact no hv
          · omega
  refine r_aload_n X d_Model_same_16 (by rfl) ?_
  refine r_get X lf_Model_16 d_Model_same_17 (by assumption) (by rfl) ?_
  refine r_iload_n X d_Model_same_20 (by rfl) ?_
  refine r_iald X d_Model_same_21 (by assumption) (by omega) (by omega) ?_
  rw [rk.2.2]
  refine r_aload_n X d_Model_same_22 (by rfl) ?_
  refine r_get X lf_Model_16 d_Model_same_23 (by assumption) (by rfl) ?_
  refine r_iload_n X d_Model_same_26 (by rfl) ?_
  refine r_iald X d_Model_same_27 (by assumption) (by omega) (by omega) ?_
  rw [rx.2.2]
  have be := wk.2.2.2.2
  have bf := wx.2.2.2.2
  refine r_icmp_neN X d_Model_same_28 (tgt := 35) (by decide) (by omega) (by omega) (fun hc => ?_) (fun hc => ?_)
  · refine r_iconst X (x := (nI 0)) d_Model_same_35 (by decide) ?_
    refine r_istore_n X d_Model_same_36 (by decide) ?_
    refine r_iconst X (x := (nI 0)) d_Model_same_37 (by decide) ?_
    refine r_istore X d_Model_same_38 (by decide) ?_
    exact loop1 32 0 _ (by omega) (Or.inr ⟨rfl, fun h => hc h.2.2⟩)
  · refine r_iconst X (x := (nI 1)) d_Model_same_31 (by decide) ?_
    refine r_goto X d_Model_same_32 (tgt := 36) (by decide) ?_
    refine r_istore_n X d_Model_same_36 (by decide) ?_
    refine r_iconst X (x := (nI 0)) d_Model_same_37 (by decide) ?_
    refine r_istore X d_Model_same_38 (by decide) ?_
    exact loop1 32 0 _ (by omega) (Or.inl ⟨rfl, hc, fun j hj => absurd hj (by omega)⟩)
end M8
