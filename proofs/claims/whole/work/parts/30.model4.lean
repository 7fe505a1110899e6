section M4
variable {l : Launch} {D : va_G} {cI cT : ClassId} {G : Gm} {S : Sg}
def MI (S : Sg) (m : Nat) (V : Vt) : Prop := RepM S m V ∧ okG (S.1 (m + 4))
theorem okG.up {g : Nat → Nat} {j v : Nat} (h : okG g) (hv : v < 10007) : okG (va_up g j v) := by
  intro i
  unfold va_up
  split
  · exact hv
  · exact h i
theorem rowf_lin (g : Nat → Nat) (a b : Nat) : rowf (va_up (va_up (rst g 0 (fun _ => 0)) 1 a) 0 b) 0 = lin a b := by
  funext i
  unfold rowf lin
  rw [Nat.zero_add]
  by_cases h0 : i = 0
  · rw [if_pos (by omega), if_pos h0, h0, va_up_s]
  · rw [va_up_n h0, if_neg h0]
    by_cases h1 : i = 1
    · rw [if_pos (by omega), if_pos h1, h1, va_up_s]
    · rw [va_up_n h1, if_neg h1]
      by_cases h2 : i < 80
      · rw [if_pos h2]
        have := rst_at (g := g) (p := 0) (h := fun _ => 0) h2
        rw [Nat.zero_add] at this
        exact this
      · rw [if_neg h2]
theorem rowf_one (g : Nat → Nat) (b : Nat) : rowf (va_up (rst g 0 (fun _ => 0)) 0 b) 0 = lin 0 b := by
  rw [← rowf_lin g 0 b]
  congr 2
  funext i
  by_cases h : i = 1
  · rw [h, va_up_s]
    have := rst_at (g := g) (p := 0) (i := 1) (h := fun _ => 0) (by omega)
    exact this
  · rw [va_up_n h]
theorem nrl_e0 (n : Nat) : ∀ (m b : Nat) (f : Nat → Nat), nrl n m b f (fun _ => 0) = (f, fun _ => 0) := by
  intro m
  induction m with
  | zero => intro b f; rfl
  | succ m ih =>
    intro b f
    show nrl n m (b + 1) f (va_up (fun _ => 0) b 0) = _
    rw [show va_up (fun _ => 0) b 0 = (fun _ => (0 : Nat)) by funext j; unfold va_up; split <;> rfl]
    exact ih (b + 1) f
theorem tp_nul {n : Nat} {f : Nat → Nat} (h : okP n f) (h0 : tp f n = 0) : f = fun _ => 0 := by
  funext i
  exact h.tz (by omega)
theorem nr_e0 {f : Nat → Nat} (h : okP 64 f) : nrN 64 f (fun _ => 0) = f ∧ nrE 64 f (fun _ => 0) = (fun _ => 0) := by
  unfold nrN nrE
  rw [nrl_e0]
  by_cases h0 : tp f 64 = 0
  · rw [if_pos h0, if_pos h0]
    exact ⟨(tp_nul h h0).symm, rfl⟩
  · rw [if_neg h0, if_neg h0]
    exact ⟨rfl, rfl⟩
theorem nrZ_1 (n : Nat) (f : Nat → Nat) : nrZ n f 1 = 1 := by unfold nrZ; split <;> rfl
theorem tp_one {n : Nat} (h : 1 ≤ n) : tp (lin 0 1) n = 1 := tp_eq h (fun i h1 _ => by unfold lin; rw [if_neg (by omega)]; split <;> rfl) (fun _ => by decide)
theorem hn_one (r : Nat) : hn (lin 0 1) r 64 0 = 1 := by
  rw [hn_le (m := 1) (k := 64) (by omega) (fun j hj => by unfold lin; rw [if_neg (by omega)]; split <;> rfl)]
  show (hn (lin 0 1) r 0 1 * r + lin 0 1 0) % 10007 = 1
  show (0 * r + 1) % 10007 = 1
  rw [Nat.zero_mul]
theorem strip_one (r k : Nat) : strip 64 r k (lin 0 1) = (lin 0 1, k) := by
  cases k with
  | zero => rfl
  | succ k =>
    unfold strip
    rw [hn_one, if_neg (by decide)]
theorem nrl_one : ∀ (m b : Nat) (e : Nat → Nat), nrl 64 m b (lin 0 1) e = (lin 0 1, e) := by
  intro m
  induction m with
  | zero => intro b e; rfl
  | succ m ih =>
    intro b e
    unfold nrl
    rw [strip_one]
    dsimp only
    rw [va_up_id]
    exact ih (b + 1) e
theorem nr_one (e : Nat → Nat) (z : Nat) : nrN 64 (lin 0 1) e = lin 0 1 ∧ nrE 64 (lin 0 1) e = e ∧ nrZ 64 (lin 0 1) z = z := by
  unfold nrN nrE nrZ
  rw [tp_one (by decide), nrl_one]
  exact ⟨rfl, rfl, rfl⟩
set_option maxHeartbeats 4000000 in
set_option maxRecDepth 100000 in
theorem m_linear {m : Nat} {s c b : Int32} {V : Vt} (hm : isM G m) (hV : MI S m V) : CT (mkE l D cI cT) G y_Model_linear b_Model_linear 4 (some .int) 4 [.ref m, .int s, .int c, .int b] S (Pi (fun S' r => ∃ V', O_lin V s c b r V' ∧ MI S' m V' ∧ exM m S S')) := by
  have hm0 := hm
  obtain ⟨hM, hco, hex, hra, hpo, hbe, hwe, hro, hle, hva⟩ := hm
  refine mk_i (by decide) (eok l D cI cT) (by simp [Value.category]) (Nat.le_of_ble_eq_true rfl) (fun J X hR => ?_)
  show J S 0 [some (.ref m), some (.int s), some (.int c), some (.int b)] []
  have hbad : ¬ (sl s ∧ rs c ∧ rs b) → J S 21 [some (.ref m), some (.int s), some (.int c), some (.int b)] [] := by
    intro h
    refine r_bipush X (x := (-9)) d_Model_linear_21 (by decide) ?_
    exact hR _ _ _ _ d_Model_linear_23 rfl ⟨_, rfl, V, Or.inl ⟨h, rfl, rfl⟩, hV, Ex.rf _ _⟩
  refine r_iload_n X d_Model_linear_0 (by rfl) ?_
  refine r_cSi X ls_Model_77 m_slot (by decide) rfl (Nat.le_of_ble_eq_true rfl) d_Model_linear_1 rfl (fun Sx rx hx => ?_)
  obtain ⟨hxs, hx⟩ := hx
  replace hxs := hxs.symm
  subst hxs
  rcases hx with ⟨rfl, g1⟩ | ⟨rfl, g1⟩
  rotate_left
  · refine r_if_eqN X d_Model_linear_4 (tgt := 21) (by decide) (by omega) (fun _ => ?_) (fun hc => absurd rfl hc)
    exact hbad (fun h => g1 h.1)
  refine r_if_eqN X d_Model_linear_4 (tgt := 21) (by decide) (by omega) (fun hc => absurd hc (by decide)) (fun _ => ?_)
  refine r_iload_n X d_Model_linear_7 (by rfl) ?_
  refine r_cSi X ls_Model_81 m_residue (by decide) rfl (Nat.le_of_ble_eq_true rfl) d_Model_linear_8 rfl (fun Sx rx hx => ?_)
  obtain ⟨hxs, hx⟩ := hx
  replace hxs := hxs.symm
  subst hxs
  rcases hx with ⟨rfl, g2⟩ | ⟨rfl, g2⟩
  rotate_left
  · refine r_if_eqN X d_Model_linear_11 (tgt := 21) (by decide) (by omega) (fun _ => ?_) (fun hc => absurd rfl hc)
    exact hbad (fun h => g2 h.2.1)
  refine r_if_eqN X d_Model_linear_11 (tgt := 21) (by decide) (by omega) (fun hc => absurd hc (by decide)) (fun _ => ?_)
  refine r_iload_n X d_Model_linear_14 (by rfl) ?_
  refine r_cSi X ls_Model_81 m_residue (by decide) rfl (Nat.le_of_ble_eq_true rfl) d_Model_linear_15 rfl (fun Sx rx hx => ?_)
  obtain ⟨hxs, hx⟩ := hx
  replace hxs := hxs.symm
  subst hxs
  rcases hx with ⟨rfl, g3⟩ | ⟨rfl, g3⟩
  rotate_left
  · refine r_if_neN X d_Model_linear_18 (tgt := 24) (by decide) (by omega) (fun hc => absurd rfl hc) (fun _ => ?_)
    exact hbad (fun h => g3 h.2.2)
  refine r_if_neN X d_Model_linear_18 (tgt := 24) (by decide) (by omega) (fun _ => ?_) (fun hc => absurd hc (by decide))
  obtain ⟨k, hk, rfl⟩ := g1
  obtain ⟨x, hx, rfl⟩ := g2
  obtain ⟨y, hy, rfl⟩ := g3
  refine r_aload_n X d_Model_linear_24 (by rfl) ?_
  refine r_iconst X (x := (nI 1)) d_Model_linear_25 (by decide) ?_
  refine r_cVv X lv_Model_56 (m_fresh (z := 1) hm0) (by assumption) (by decide) rfl (Nat.le_of_ble_eq_true rfl) d_Model_linear_26 rfl (fun S1 h1 => ?_)
  obtain ⟨h4, h5, hz, hx1⟩ := h1
  refine r_aload_n X d_Model_linear_29 (by rfl) ?_
  refine r_get X lf_Model_19 d_Model_linear_30 (by assumption) (by rfl) ?_
  refine r_iconst X (x := (nI 1)) d_Model_linear_33 (by decide) ?_
  refine r_iload_n X d_Model_linear_34 (by rfl) ?_
  refine r_iast X d_Model_linear_35 (by assumption) (by omega) (by omega) ?_
  refine r_aload_n X d_Model_linear_36 (by rfl) ?_
  refine r_get X lf_Model_19 d_Model_linear_37 (by assumption) (by rfl) ?_
  refine r_iconst X (x := (nI 0)) d_Model_linear_40 (by decide) ?_
  refine r_iload_n X d_Model_linear_41 (by rfl) ?_
  refine r_iast X d_Model_linear_42 (by assumption) (by omega) (by omega) ?_
  have f4 : (arS (arS S1 (m + 4) (va_up (S1.1 (m + 4)) 1 x)) (m + 4) (va_up ((arS S1 (m + 4) (va_up (S1.1 (m + 4)) 1 x)).1 (m + 4)) 0 y)).1 (m + 4) = va_up (va_up (rst (S.1 (m + 4)) 0 (fun _ => 0)) 1 x) 0 y := by rw [arS_1, arS_1, h4]
  have ho4 : Out S1 (arS (arS S1 (m + 4) (va_up (S1.1 (m + 4)) 1 x)) (m + 4) (va_up ((arS S1 (m + 4) (va_up (S1.1 (m + 4)) 1 x)).1 (m + 4)) 0 y)) (m + 4) 1 := (Out.ar (by omega) (by omega)).trans (Out.ar (by omega) (by omega))
  revert f4 ho4
  generalize arS (arS S1 (m + 4) (va_up (S1.1 (m + 4)) 1 x)) (m + 4) (va_up ((arS S1 (m + 4) (va_up (S1.1 (m + 4)) 1 x)).1 (m + 4)) 0 y) = S2
  intro f4 ho4
  have hg2 : okG (S2.1 (m + 4)) := by rw [f4]; exact ((hV.2.rst 0 (zero_ok 80)).up hx).up hy
  have hV2 : RepM S2 m V := (hV.1.ex hx1 (by omega) (by omega) (by omega)).ex (ho4.ex (P := fun a => a = m + 4) (fun a h1 h2 => by omega)) (by omega) (by omega) (by omega)
  have hl : okP 64 (lin x y) := lin_ok hx hy (by decide)
  refine r_aload_n X d_Model_linear_43 (by rfl) ?_
  refine r_iload_n X d_Model_linear_44 (by rfl) ?_
  refine r_cVi X lv_Model_84 (m_finish (z := 1) (f := lin x y) (e := fun _ => 0) hm0 hk hV2 hg2 (by rw [f4]; exact rowf_lin _ x y) hl zeroE_ok (by rw [ho4.a1 (by omega)]; exact h5) (by rw [ho4.a2 (by omega)]; exact hz)) (by assumption) (by decide) rfl (Nat.le_of_ble_eq_true rfl) d_Model_linear_45 rfl (fun S3 r h3 => ?_)
  obtain ⟨V', h3, hV3, hg3, -, hx3⟩ := h3
  rw [(nr_e0 hl).1, (nr_e0 hl).2, nrZ_1] at h3
  exact hR _ _ _ _ d_Model_linear_48 rfl ⟨_, rfl, V', Or.inr ⟨k, x, y, hk, hx, hy, rfl, rfl, rfl, h3⟩, ⟨hV3, hg3⟩, ((hx1.mono (fun a h => by omega)).trans (ho4.ex (fun a h1 h2 => by omega))).trans (hx3.mono (fun a h => by omega))⟩
theorem O_lin_const {V V' : Vt} {s c r : Int32} (h : O_lin V s (nI 0) c r V') : O_const V s c r V' := by
  rcases h with ⟨h, h1, h2⟩ | ⟨k, x, y, hk, hx, hy, hs, he, hc, h⟩
  · exact Or.inl ⟨fun g => h ⟨g.1, ⟨0, by decide, rfl⟩, g.2⟩, h1, h2⟩
  · have hx0 := (nI_eq (by decide) (by omega)).mp he
    subst hx0
    exact Or.inr ⟨k, y, hk, hy, hs, hc, h⟩
set_option maxHeartbeats 4000000 in
set_option maxRecDepth 100000 in
theorem m_constant {m : Nat} {s c : Int32} {V : Vt} (hm : isM G m) (hV : MI S m V) : CT (mkE l D cI cT) G y_Model_constant b_Model_constant 3 (some .int) 6 [.ref m, .int s, .int c] S (Pi (fun S' r => ∃ V', O_const V s c r V' ∧ MI S' m V' ∧ exM m S S')) := by
  have hM := hm.1
  refine mk_i (by decide) (eok l D cI cT) (by simp [Value.category]) (Nat.le_of_ble_eq_true rfl) (fun J X hR => ?_)
  show J S 0 [some (.ref m), some (.int s), some (.int c)] []
  refine r_aload_n X d_Model_constant_0 (by rfl) ?_
  refine r_iload_n X d_Model_constant_1 (by rfl) ?_
  refine r_iconst X (x := (nI 0)) d_Model_constant_2 (by decide) ?_
  refine r_iload_n X d_Model_constant_3 (by rfl) ?_
  refine r_cVi X lv_Model_73 (m_linear hm hV) (by assumption) (by decide) rfl (Nat.le_of_ble_eq_true rfl) d_Model_constant_4 rfl (fun S3 r h3 => ?_)
  obtain ⟨V', h3, hV3⟩ := h3
  exact hR _ _ _ _ d_Model_constant_7 rfl ⟨_, rfl, V', O_lin_const h3, hV3⟩
set_option maxHeartbeats 4000000 in
set_option maxRecDepth 100000 in
theorem m_power {m : Nat} {s z : Int32} {V : Vt} (hm : isM G m) (hV : MI S m V) : CT (mkE l D cI cT) G y_Model_power b_Model_power 3 (some .int) 6 [.ref m, .int s, .int z] S (Pi (fun S' r => ∃ V', O_pow V s z r V' ∧ MI S' m V' ∧ exM m S S')) := by
  have hm0 := hm
  obtain ⟨hM, hco, hex, hra, hpo, hbe, hwe, hro, hle, hva⟩ := hm
  refine mk_i (by decide) (eok l D cI cT) (by simp [Value.category]) (Nat.le_of_ble_eq_true rfl) (fun J X hR => ?_)
  show J S 0 [some (.ref m), some (.int s), some (.int z)] []
  have hbad : ¬ (sl s ∧ rs z ∧ z ≠ 0) → J S 18 [some (.ref m), some (.int s), some (.int z)] [] := by
    intro h
    refine r_bipush X (x := (-9)) d_Model_power_18 (by decide) ?_
    exact hR _ _ _ _ d_Model_power_20 rfl ⟨_, rfl, V, Or.inl ⟨h, rfl, rfl⟩, hV, Ex.rf _ _⟩
  refine r_iload_n X d_Model_power_0 (by rfl) ?_
  refine r_cSi X ls_Model_77 m_slot (by decide) rfl (Nat.le_of_ble_eq_true rfl) d_Model_power_1 rfl (fun Sx rx hx => ?_)
  obtain ⟨hxs, hx⟩ := hx
  replace hxs := hxs.symm
  subst hxs
  rcases hx with ⟨rfl, g1⟩ | ⟨rfl, g1⟩
  rotate_left
  · refine r_if_eqN X d_Model_power_4 (tgt := 18) (by decide) (by omega) (fun _ => ?_) (fun hc => absurd rfl hc)
    exact hbad (fun h => g1 h.1)
  refine r_if_eqN X d_Model_power_4 (tgt := 18) (by decide) (by omega) (fun hc => absurd hc (by decide)) (fun _ => ?_)
  refine r_iload_n X d_Model_power_7 (by rfl) ?_
  refine r_cSi X ls_Model_81 m_residue (by decide) rfl (Nat.le_of_ble_eq_true rfl) d_Model_power_8 rfl (fun Sx rx hx => ?_)
  obtain ⟨hxs, hx⟩ := hx
  replace hxs := hxs.symm
  subst hxs
  rcases hx with ⟨rfl, g2⟩ | ⟨rfl, g2⟩
  rotate_left
  · refine r_if_eqN X d_Model_power_11 (tgt := 18) (by decide) (by omega) (fun _ => ?_) (fun hc => absurd rfl hc)
    exact hbad (fun h => g2 h.2.1)
  refine r_if_eqN X d_Model_power_11 (tgt := 18) (by decide) (by omega) (fun hc => absurd hc (by decide)) (fun _ => ?_)
  refine r_iload_n X d_Model_power_14 (by rfl) ?_
  refine r_if_ne X d_Model_power_15 (tgt := 21) (by decide) (fun g3 => ?_) (fun g3 => hbad (fun h => h.2.2 g3))
  obtain ⟨k, hk, rfl⟩ := g1
  obtain ⟨x, hx, rfl⟩ := g2
  have hx0 : 0 < x := by
    rcases Nat.eq_zero_or_pos x with h | h
    · exact absurd (by rw [h]; exact nI_0) g3
    · exact h
  refine r_aload_n X d_Model_power_21 (by rfl) ?_
  refine r_iload_n X d_Model_power_22 (by rfl) ?_
  refine r_cVv X lv_Model_56 (m_fresh (z := x) hm0) (by assumption) (by decide) rfl (Nat.le_of_ble_eq_true rfl) d_Model_power_23 rfl (fun S1 h1 => ?_)
  obtain ⟨h4, h5, hz, hx1⟩ := h1
  refine r_aload_n X d_Model_power_26 (by rfl) ?_
  refine r_get X lf_Model_19 d_Model_power_27 (by assumption) (by rfl) ?_
  refine r_iconst X (x := (nI 0)) d_Model_power_30 (by decide) ?_
  refine r_iconst X (x := (nI 1)) d_Model_power_31 (by decide) ?_
  refine r_iast X d_Model_power_32 (by assumption) (by omega) (by omega) ?_
  have f4 : (arS S1 (m + 4) (va_up (S1.1 (m + 4)) 0 1)).1 (m + 4) = va_up (rst (S.1 (m + 4)) 0 (fun _ => 0)) 0 1 := by rw [arS_1, h4]
  have ho4 : Out S1 (arS S1 (m + 4) (va_up (S1.1 (m + 4)) 0 1)) (m + 4) 1 := Out.ar (by omega) (by omega)
  revert f4 ho4
  generalize arS S1 (m + 4) (va_up (S1.1 (m + 4)) 0 1) = S2
  intro f4 ho4
  have hg2 : okG (S2.1 (m + 4)) := by rw [f4]; exact (hV.2.rst 0 (zero_ok 80)).up (by decide)
  have hV2 : RepM S2 m V := (hV.1.ex hx1 (by omega) (by omega) (by omega)).ex (ho4.ex (P := fun a => a = m + 4) (fun a h1 h2 => by omega)) (by omega) (by omega) (by omega)
  have hl : okP 64 (lin 0 1) := lin_ok (by decide) (by decide) (by decide)
  refine r_aload_n X d_Model_power_33 (by rfl) ?_
  refine r_iload_n X d_Model_power_34 (by rfl) ?_
  refine r_cVi X lv_Model_84 (m_finish (z := x) (f := lin 0 1) (e := fun _ => 0) hm0 hk hV2 hg2 (by rw [f4]; exact rowf_one _ 1) hl zeroE_ok (by rw [ho4.a1 (by omega)]; exact h5) (by rw [ho4.a2 (by omega)]; exact hz)) (by assumption) (by decide) rfl (Nat.le_of_ble_eq_true rfl) d_Model_power_35 rfl (fun S3 r h3 => ?_)
  obtain ⟨V', h3, hV3, hg3, -, hx3⟩ := h3
  have n1 := nr_one (fun _ => 0) x
  rw [n1.1, n1.2.1, n1.2.2] at h3
  exact hR _ _ _ _ d_Model_power_38 rfl ⟨_, rfl, V', Or.inr ⟨k, x, hk, hx0, hx, rfl, rfl, h3⟩, ⟨hV3, hg3⟩, ((hx1.mono (fun a h => by omega)).trans (ho4.ex (fun a h1 h2 => by omega))).trans (hx3.mono (fun a h => by omega))⟩
set_option maxHeartbeats 4000000 in
set_option maxRecDepth 100000 in
theorem m_pole {m : Nat} {s c b : Int32} {V : Vt} (hm : isM G m) (hV : MI S m V) : CT (mkE l D cI cT) G y_Model_pole b_Model_pole 4 (some .int) 6 [.ref m, .int s, .int c, .int b] S (Pi (fun S' r => ∃ V', O_pole V s c b r V' ∧ MI S' m V' ∧ exM m S S')) := by
  have hm0 := hm
  obtain ⟨hM, hco, hex, hra, hpo, hbe, hwe, hro, hle, hva⟩ := hm
  refine mk_i (by decide) (eok l D cI cT) (by simp [Value.category]) (Nat.le_of_ble_eq_true rfl) (fun J X hR => ?_)
  show J S 0 [some (.ref m), some (.int s), some (.int c), some (.int b)] []
  have hbad : ¬ (sl s ∧ sl c ∧ px3 b) → J S 24 [some (.ref m), some (.int s), some (.int c), some (.int b)] [] := by
    intro h
    refine r_bipush X (x := (-9)) d_Model_pole_24 (by decide) ?_
    exact hR _ _ _ _ d_Model_pole_26 rfl ⟨_, rfl, V, Or.inl ⟨h, rfl, rfl⟩, hV, Ex.rf _ _⟩
  refine r_iload_n X d_Model_pole_0 (by rfl) ?_
  refine r_cSi X ls_Model_77 m_slot (by decide) rfl (Nat.le_of_ble_eq_true rfl) d_Model_pole_1 rfl (fun Sx rx hx => ?_)
  obtain ⟨hxs, hx⟩ := hx
  replace hxs := hxs.symm
  subst hxs
  rcases hx with ⟨rfl, g1⟩ | ⟨rfl, g1⟩
  rotate_left
  · refine r_if_eqN X d_Model_pole_4 (tgt := 24) (by decide) (by omega) (fun _ => ?_) (fun hc => absurd rfl hc)
    exact hbad (fun h => g1 h.1)
  refine r_if_eqN X d_Model_pole_4 (tgt := 24) (by decide) (by omega) (fun hc => absurd hc (by decide)) (fun _ => ?_)
  refine r_iload_n X d_Model_pole_7 (by rfl) ?_
  refine r_cSi X ls_Model_77 m_slot (by decide) rfl (Nat.le_of_ble_eq_true rfl) d_Model_pole_8 rfl (fun Sx rx hx => ?_)
  obtain ⟨hxs, hx⟩ := hx
  replace hxs := hxs.symm
  subst hxs
  rcases hx with ⟨rfl, g2⟩ | ⟨rfl, g2⟩
  rotate_left
  · refine r_if_eqN X d_Model_pole_11 (tgt := 24) (by decide) (by omega) (fun _ => ?_) (fun hc => absurd rfl hc)
    exact hbad (fun h => g2 h.2.1)
  refine r_if_eqN X d_Model_pole_11 (tgt := 24) (by decide) (by omega) (fun hc => absurd hc (by decide)) (fun _ => ?_)
  refine r_iload_n X d_Model_pole_14 (by rfl) ?_
  refine r_iconst X (x := (nI 1)) d_Model_pole_15 (by decide) ?_
  refine r_icmp_lt X d_Model_pole_16 (tgt := 24) (by decide) (fun hc => ?_) (fun hc => ?_)
  · refine hbad (fun h => ?_)
    obtain ⟨-, -, k, hk, hk3, e⟩ := h
    rw [e] at hc
    have := (nI_ltI (by omega) (by omega)).mp hc
    omega
  · have hx0 : ¬ b < 0 := by
      intro h
      refine hc ?_
      rw [Int32.lt_iff_toInt_lt, Int32.toInt_zero] at h
      rw [Int32.lt_iff_toInt_lt, nI_toInt (by omega)]
      omega
    obtain ⟨y, hy, rfl⟩ := nI_of hx0
    have hy1 : ¬ y < 1 := fun h => hc ((nI_ltI hy (by omega)).mpr h)
    refine r_iload_n X d_Model_pole_19 (by rfl) ?_
    refine r_iconst X (x := (nI 3)) d_Model_pole_20 (by decide) ?_
    refine r_icmp_leN X d_Model_pole_21 (tgt := 27) (by decide) (by omega) (by omega) (fun hc => ?_) (fun hc => ?_)
    rotate_left
    · refine hbad (fun h => ?_)
      obtain ⟨-, -, k, hk, hk3, e⟩ := h
      have := (nI_eq hy (by omega)).mp e
      omega
    obtain ⟨k, hk, rfl⟩ := g1
    obtain ⟨x, hx, rfl⟩ := g2
    refine r_aload_n X d_Model_pole_27 (by rfl) ?_
    refine r_iconst X (x := (nI 1)) d_Model_pole_28 (by decide) ?_
    refine r_cVv X lv_Model_56 (m_fresh (z := 1) hm0) (by assumption) (by decide) rfl (Nat.le_of_ble_eq_true rfl) d_Model_pole_29 rfl (fun S1 h1 => ?_)
    obtain ⟨h4, h5, hz, hx1⟩ := h1
    refine r_aload_n X d_Model_pole_32 (by rfl) ?_
    refine r_get X lf_Model_19 d_Model_pole_33 (by assumption) (by rfl) ?_
    refine r_iconst X (x := (nI 0)) d_Model_pole_36 (by decide) ?_
    refine r_iconst X (x := (nI 1)) d_Model_pole_37 (by decide) ?_
    refine r_iast X d_Model_pole_38 (by assumption) (by omega) (by omega) ?_
    have f4 : (arS S1 (m + 4) (va_up (S1.1 (m + 4)) 0 1)).1 (m + 4) = va_up (rst (S.1 (m + 4)) 0 (fun _ => 0)) 0 1 := by rw [arS_1, h4]
    have ho4 : Out S1 (arS S1 (m + 4) (va_up (S1.1 (m + 4)) 0 1)) (m + 4) 1 := Out.ar (by omega) (by omega)
    revert f4 ho4
    generalize arS S1 (m + 4) (va_up (S1.1 (m + 4)) 0 1) = S2
    intro f4 ho4
    have f5 : S2.1 (m + 5) = fun _ => 0 := by rw [ho4.a1 (by omega)]; exact h5
    have hg2 : okG (S2.1 (m + 4)) := by rw [f4]; exact (hV.2.rst 0 (zero_ok 80)).up (by decide)
    have hV2 : RepM S2 m V := (hV.1.ex hx1 (by omega) (by omega) (by omega)).ex (ho4.ex (P := fun a => a = m + 4) (fun a h1 h2 => by omega)) (by omega) (by omega) (by omega)
    have hl : okP 64 (lin 0 1) := lin_ok (by decide) (by decide) (by decide)
    refine r_aload_n X d_Model_pole_39 (by rfl) ?_
    refine r_get X lf_Model_22 d_Model_pole_40 (by assumption) (by rfl) ?_
    refine r_iload_n X d_Model_pole_43 (by rfl) ?_
    refine r_iload_n X d_Model_pole_44 (by rfl) ?_
    refine r_iast X d_Model_pole_45 (by assumption) (by omega) (by omega) ?_
    have f6 : (arS S2 (m + 5) (va_up (S2.1 (m + 5)) x y)).1 (m + 5) = va_up (fun _ => 0) x y := by rw [arS_1, f5]
    have ho6 : Out S2 (arS S2 (m + 5) (va_up (S2.1 (m + 5)) x y)) (m + 5) 1 := Out.ar (by omega) (by omega)
    revert f6 ho6
    generalize arS S2 (m + 5) (va_up (S2.1 (m + 5)) x y) = S5
    intro f6 ho6
    have hV5 : RepM S5 m V := hV2.ex (ho6.ex (P := fun a => a = m + 5) (fun a h1 h2 => by omega)) (by omega) (by omega) (by omega)
    have r5 : S5.1 (m + 4) = S2.1 (m + 4) := ho6.a1 (by omega)
    refine r_aload_n X d_Model_pole_46 (by rfl) ?_
    refine r_iload_n X d_Model_pole_47 (by rfl) ?_
    refine r_cVi X lv_Model_84 (m_finish (z := 1) (f := lin 0 1) (e := va_up (fun _ => 0) x y) hm0 hk hV5 (by rw [r5]; exact hg2) (by rw [r5, f4]; exact rowf_one _ 1) hl (zeroE_ok.up (by omega) (by omega)) f6 (by rw [ho6.a2 (by omega), ho4.a2 (by omega)]; exact hz)) (by assumption) (by decide) rfl (Nat.le_of_ble_eq_true rfl) d_Model_pole_48 rfl (fun S3 r h3 => ?_)
    obtain ⟨V', h3, hV3, hg3, -, hx3⟩ := h3
    have n1 := nr_one (va_up (fun _ => 0) x y) 1
    rw [n1.1, n1.2.1, n1.2.2] at h3
    exact hR _ _ _ _ d_Model_pole_51 rfl ⟨_, rfl, V', Or.inr ⟨k, x, y, hk, hx, by omega, hc, rfl, rfl, rfl, h3⟩, ⟨hV3, hg3⟩, (((hx1.mono (fun a h => by omega)).trans (ho4.ex (fun a h1 h2 => by omega))).trans (ho6.ex (fun a h1 h2 => by omega))).trans (hx3.mono (fun a h => by omega))⟩
set_option maxHeartbeats 4000000 in
set_option maxRecDepth 100000 in
theorem m_ratio {m : Nat} {s : Int32} {V : Vt} (hm : isM G m) (hV : MI S m V) : CT (mkE l D cI cT) G y_Model_ratio b_Model_ratio 2 (some .int) 6 [.ref m, .int s] S (Pi (fun S' r => O_ratio V s r ∧ S' = S)) := by
  obtain ⟨hM, hco, hex, hra, hpo, hbe, hwe, hro, hle, hva⟩ := hm
  refine mk_i (by decide) (eok l D cI cT) (by simp [Value.category]) (Nat.le_of_ble_eq_true rfl) (fun J X hR => ?_)
  show J S 0 [some (.ref m), some (.int s)] []
  have hbad : ¬ sl s → J S 16 [some (.ref m), some (.int s)] [] := by
    intro h
    refine r_bipush X (x := (-9)) d_Model_ratio_16 (by decide) ?_
    exact hR _ _ _ _ d_Model_ratio_18 rfl ⟨_, rfl, Or.inl ⟨h, rfl⟩, rfl⟩
  refine r_iload_n X d_Model_ratio_0 (by rfl) ?_
  refine r_cSi X ls_Model_77 m_slot (by decide) rfl (Nat.le_of_ble_eq_true rfl) d_Model_ratio_1 rfl (fun Sx rx hx => ?_)
  obtain ⟨hxs, hx⟩ := hx
  replace hxs := hxs.symm
  subst hxs
  rcases hx with ⟨rfl, g1⟩ | ⟨rfl, g1⟩
  rotate_left
  · refine r_if_eqN X d_Model_ratio_4 (tgt := 16) (by decide) (by omega) (fun _ => ?_) (fun hc => absurd rfl hc)
    exact hbad (fun h => g1 h)
  refine r_if_eqN X d_Model_ratio_4 (tgt := 16) (by decide) (by omega) (fun hc => absurd hc (by decide)) (fun _ => ?_)
  obtain ⟨k, hk, rfl⟩ := g1
  refine r_aload_n X d_Model_ratio_7 (by rfl) ?_
  refine r_get X lf_Model_16 d_Model_ratio_8 (by assumption) (by rfl) ?_
  refine r_iload_n X d_Model_ratio_11 (by rfl) ?_
  refine r_iald X d_Model_ratio_12 (by assumption) (by omega) (by omega) ?_
  refine r_goto X d_Model_ratio_13 (tgt := 18) (by decide) ?_
  exact hR _ _ _ _ d_Model_ratio_18 rfl ⟨_, rfl, Or.inr ⟨k, hk, rfl, by rw [(hV.1 k hk).2.2]⟩, rfl⟩
set_option maxHeartbeats 4000000 in
set_option maxRecDepth 100000 in
theorem m_coefficient {m : Nat} {s i : Int32} {V : Vt} (hm : isM G m) (hV : MI S m V) : CT (mkE l D cI cT) G y_Model_coefficient b_Model_coefficient 3 (some .int) 6 [.ref m, .int s, .int i] S (Pi (fun S' r => O_coef V s i r ∧ S' = S)) := by
  obtain ⟨hM, hco, hex, hra, hpo, hbe, hwe, hro, hle, hva⟩ := hm
  refine mk_i (by decide) (eok l D cI cT) (by simp [Value.category]) (Nat.le_of_ble_eq_true rfl) (fun J X hR => ?_)
  show J S 0 [some (.ref m), some (.int s), some (.int i)] []
  have hbad : ¬ (sl s ∧ ix32 i) → J S 31 [some (.ref m), some (.int s), some (.int i)] [] := by
    intro h
    refine r_bipush X (x := (-9)) d_Model_coefficient_31 (by decide) ?_
    exact hR _ _ _ _ d_Model_coefficient_33 rfl ⟨_, rfl, Or.inl ⟨h, rfl⟩, rfl⟩
  refine r_iload_n X d_Model_coefficient_0 (by rfl) ?_
  refine r_cSi X ls_Model_77 m_slot (by decide) rfl (Nat.le_of_ble_eq_true rfl) d_Model_coefficient_1 rfl (fun Sx rx hx => ?_)
  obtain ⟨hxs, hx⟩ := hx
  replace hxs := hxs.symm
  subst hxs
  rcases hx with ⟨rfl, g1⟩ | ⟨rfl, g1⟩
  rotate_left
  · refine r_if_eqN X d_Model_coefficient_4 (tgt := 31) (by decide) (by omega) (fun _ => ?_) (fun hc => absurd rfl hc)
    exact hbad (fun h => g1 h.1)
  refine r_if_eqN X d_Model_coefficient_4 (tgt := 31) (by decide) (by omega) (fun hc => absurd hc (by decide)) (fun _ => ?_)
  refine r_iload_n X d_Model_coefficient_7 (by rfl) ?_
  refine r_if_lt X d_Model_coefficient_8 (tgt := 31) (by decide) (fun hc => ?_) (fun hc => ?_)
  · exact hbad (fun h => by obtain ⟨-, k, hk, e⟩ := h; exact nI_neg_no hc (by omega) e)
  · obtain ⟨j, hj, rfl⟩ := nI_of hc
    refine r_iload_n X d_Model_coefficient_11 (by rfl) ?_
    refine r_bipush X (x := (nI 32)) d_Model_coefficient_12 (by decide) ?_
    refine r_icmp_geN X d_Model_coefficient_14 (tgt := 31) (by decide) (by omega) (by omega) (fun hc => ?_) (fun hc => ?_)
    · exact hbad (fun h => by obtain ⟨-, k, hk, e⟩ := h; have := (nI_eq hj (by omega)).mp e; omega)
    · obtain ⟨k, hk, rfl⟩ := g1
      refine r_aload_n X d_Model_coefficient_17 (by rfl) ?_
      refine r_get X lf_Model_7 d_Model_coefficient_18 (by assumption) (by rfl) ?_
      refine r_bipush X (x := (nI 32)) d_Model_coefficient_21 (by decide) ?_
      refine r_iload_n X d_Model_coefficient_23 (by rfl) ?_
      first | refine r_imulN X d_Model_coefficient_24 ?_ | refine r_imul X d_Model_coefficient_24 ?_
      refine r_iload_n X d_Model_coefficient_25 (by rfl) ?_
      first | refine r_iaddN X d_Model_coefficient_26 ?_ | refine r_iadd X d_Model_coefficient_26 ?_
      refine r_iald X d_Model_coefficient_27 (by assumption) (by omega) (by omega) ?_
      refine r_goto X d_Model_coefficient_28 (tgt := 33) (by decide) ?_
      exact hR _ _ _ _ d_Model_coefficient_33 rfl ⟨_, rfl, Or.inr ⟨k, j, hk, by omega, rfl, rfl, by rw [(hV.1 k hk).1 j (by omega)]⟩, rfl⟩
set_option maxHeartbeats 4000000 in
set_option maxRecDepth 100000 in
theorem m_exponent {m : Nat} {s b : Int32} {V : Vt} (hm : isM G m) (hV : MI S m V) : CT (mkE l D cI cT) G y_Model_exponent b_Model_exponent 3 (some .int) 6 [.ref m, .int s, .int b] S (Pi (fun S' r => O_exp V s b r ∧ S' = S)) := by
  obtain ⟨hM, hco, hex, hra, hpo, hbe, hwe, hro, hle, hva⟩ := hm
  refine mk_i (by decide) (eok l D cI cT) (by simp [Value.category]) (Nat.le_of_ble_eq_true rfl) (fun J X hR => ?_)
  show J S 0 [some (.ref m), some (.int s), some (.int b)] []
  have hbad : ¬ (sl s ∧ sl b) → J S 28 [some (.ref m), some (.int s), some (.int b)] [] := by
    intro h
    refine r_bipush X (x := (-9)) d_Model_exponent_28 (by decide) ?_
    exact hR _ _ _ _ d_Model_exponent_30 rfl ⟨_, rfl, Or.inl ⟨h, rfl⟩, rfl⟩
  refine r_iload_n X d_Model_exponent_0 (by rfl) ?_
  refine r_cSi X ls_Model_77 m_slot (by decide) rfl (Nat.le_of_ble_eq_true rfl) d_Model_exponent_1 rfl (fun Sx rx hx => ?_)
  obtain ⟨hxs, hx⟩ := hx
  replace hxs := hxs.symm
  subst hxs
  rcases hx with ⟨rfl, g1⟩ | ⟨rfl, g1⟩
  rotate_left
  · refine r_if_eqN X d_Model_exponent_4 (tgt := 28) (by decide) (by omega) (fun _ => ?_) (fun hc => absurd rfl hc)
    exact hbad (fun h => g1 h.1)
  refine r_if_eqN X d_Model_exponent_4 (tgt := 28) (by decide) (by omega) (fun hc => absurd hc (by decide)) (fun _ => ?_)
  refine r_iload_n X d_Model_exponent_7 (by rfl) ?_
  refine r_cSi X ls_Model_77 m_slot (by decide) rfl (Nat.le_of_ble_eq_true rfl) d_Model_exponent_8 rfl (fun Sx rx hx => ?_)
  obtain ⟨hxs, hx⟩ := hx
  replace hxs := hxs.symm
  subst hxs
  rcases hx with ⟨rfl, g2⟩ | ⟨rfl, g2⟩
  rotate_left
  · refine r_if_eqN X d_Model_exponent_11 (tgt := 28) (by decide) (by omega) (fun _ => ?_) (fun hc => absurd rfl hc)
    exact hbad (fun h => g2 h.2)
  refine r_if_eqN X d_Model_exponent_11 (tgt := 28) (by decide) (by omega) (fun hc => absurd hc (by decide)) (fun _ => ?_)
  obtain ⟨k, hk, rfl⟩ := g1
  obtain ⟨j, hj, rfl⟩ := g2
  refine r_aload_n X d_Model_exponent_14 (by rfl) ?_
  refine r_get X lf_Model_13 d_Model_exponent_15 (by assumption) (by rfl) ?_
  refine r_bipush X (x := (nI 8)) d_Model_exponent_18 (by decide) ?_
  refine r_iload_n X d_Model_exponent_20 (by rfl) ?_
  first | refine r_imulN X d_Model_exponent_21 ?_ | refine r_imul X d_Model_exponent_21 ?_
  refine r_iload_n X d_Model_exponent_22 (by rfl) ?_
  first | refine r_iaddN X d_Model_exponent_23 ?_ | refine r_iadd X d_Model_exponent_23 ?_
  refine r_iald X d_Model_exponent_24 (by assumption) (by omega) (by omega) ?_
  refine r_goto X d_Model_exponent_25 (tgt := 30) (by decide) ?_
  exact hR _ _ _ _ d_Model_exponent_30 rfl ⟨_, rfl, Or.inr ⟨k, j, hk, hj, rfl, rfl, by rw [(hV.1 k hk).2.1 j hj]⟩, rfl⟩
theorem crw_eq {S : Sg} {m s : Nat} {V : Vt} (hV : RepM S m V) (hs : s < 8) (hN : okP 32 (V s).1) : crw (S.1 (m + 1)) s = (V s).1 := by
  funext i
  unfold crw
  by_cases h : i < 32
  · rw [if_pos h, (hV s hs).1 i h]
  · rw [if_neg h, hN.2 i (by omega)]
set_option maxHeartbeats 4000000 in
set_option maxRecDepth 100000 in
theorem m_degree {m : Nat} {s : Int32} {V : Vt} (hm : isM G m) (hV : MI S m V) (hw : wfV V) : CT (mkE l D cI cT) G y_Model_degree b_Model_degree 2 (some .int) 6 [.ref m, .int s] S (Pi (fun S' r => O_deg V s r ∧ MI S' m V ∧ exM m S S')) := by
  have hm0 := hm
  obtain ⟨hM, hco, hex, hra, hpo, hbe, hwe, hro, hle, hva⟩ := hm
  refine mk_i (by decide) (eok l D cI cT) (by simp [Value.category]) (Nat.le_of_ble_eq_true rfl) (fun J X hR => ?_)
  show J S 0 [some (.ref m), some (.int s)] []
  have hbad : ¬ sl s → J S 7 [some (.ref m), some (.int s)] [] := by
    intro h
    refine r_bipush X (x := (-9)) d_Model_degree_7 (by decide) ?_
    exact hR _ _ _ _ d_Model_degree_9 rfl ⟨_, rfl, Or.inl ⟨h, rfl⟩, hV, Ex.rf _ _⟩
  refine r_iload_n X d_Model_degree_0 (by rfl) ?_
  refine r_cSi X ls_Model_77 m_slot (by decide) rfl (Nat.le_of_ble_eq_true rfl) d_Model_degree_1 rfl (fun Sx rx hx => ?_)
  obtain ⟨hxs, hx⟩ := hx
  replace hxs := hxs.symm
  subst hxs
  rcases hx with ⟨rfl, g1⟩ | ⟨rfl, g1⟩
  rotate_left
  · refine r_if_neN X d_Model_degree_4 (tgt := 10) (by decide) (by omega) (fun hc => absurd rfl hc) (fun _ => ?_)
    exact hbad (fun h => g1 h)
  refine r_if_neN X d_Model_degree_4 (tgt := 10) (by decide) (by omega) (fun _ => ?_) (fun hc => absurd hc (by decide))
  obtain ⟨k, hk, rfl⟩ := g1
  have wk := (hw k hk).1
  refine r_aload_n X d_Model_degree_10 (by rfl) ?_
  refine r_iconst X (x := (nI 0)) d_Model_degree_11 (by decide) ?_
  refine r_iload_n X d_Model_degree_12 (by rfl) ?_
  refine r_cVv X lv_Model_90 (m_load (p := 0) hm0 (by omega) hk) (by assumption) (by decide) rfl (Nat.le_of_ble_eq_true rfl) d_Model_degree_13 rfl (fun S1 h1 => ?_)
  rw [crw_eq hV.1 hk wk] at h1
  have ho1 : Out S S1 (m + 4) 1 := by rw [h1]; exact Out.ar (by omega) (by omega)
  have f4 : S1.1 (m + 4) = rst (S.1 (m + 4)) 0 (V k).1 := by rw [h1, arS_1]
  have hg1 : okG (S1.1 (m + 4)) := by rw [f4]; exact hV.2.rst 0 (wk.mono (by omega))
  have hV1 : RepM S1 m V := hV.1.ex (ho1.ex (P := fun a => a = m + 4) (fun a h1 h2 => by omega)) (by omega) (by omega) (by omega)
  refine r_aload_n X d_Model_degree_16 (by rfl) ?_
  refine r_iconst X (x := (nI 0)) d_Model_degree_17 (by decide) ?_
  refine r_cVi X lv_Model_53 (m_top (p := 0) hm0 (by omega) hg1) (by assumption) (by decide) rfl (Nat.le_of_ble_eq_true rfl) d_Model_degree_18 rfl (fun S2 r h2 => ?_)
  obtain ⟨hxs, rfl⟩ := h2
  replace hxs := hxs.symm
  subst hxs
  refine hR _ _ _ _ d_Model_degree_21 rfl ⟨_, rfl, Or.inr ⟨k, hk, rfl, ?_⟩, ⟨hV1, hg1⟩, ho1.ex (fun a h1 h2 => by omega)⟩
  rw [f4, rowf_rst (wk.mono (by omega)), tp_two (fun i hi => wk.2 i (by omega)) wk.2]
end M4
