section D2
variable {l : Launch} {D : va_G} {cI cT : ClassId} {G : Gm} {S : Sg}
theorem zero_ok (n : Nat) : okP n (fun _ => 0) := ⟨fun _ => (by decide : 0 < 10007), fun _ _ => rfl⟩
theorem zeroE_ok : okE (fun _ => 0) := ⟨fun _ => (by decide : 0 < 100), fun _ _ => rfl⟩
def O_const (V : Vt) (s c : Int32) (r : Int32) (V' : Vt) : Prop := (¬ (sl s ∧ rs c) ∧ r = -9 ∧ V' = V) ∨ ∃ k x, k < 8 ∧ x < 10007 ∧ s = nI k ∧ c = nI x ∧ Kp (lin 0 x) (fun _ => 0) 1 V k r V'
set_option maxHeartbeats 4000000 in
set_option maxRecDepth 100000 in
theorem c_constant {B : Nat} {s c : Int32} {V : Vt} (hd : isD G cT B) (hV : Rep S B V) : CT (mkE l D cI cT) G y_Desk_constant b_Desk_constant 3 (some .int) 6 [.ref B, .int s, .int c] S (Pi (fun S' r => ∃ V', O_const V s c r V' ∧ Rep S' B V' ∧ exD B S S')) := by
  have hd0 := hd
  obtain ⟨hB, hA, hsl, hres, hrem, hC, hSp⟩ := hd
  have hrT := hres.1
  have hrP := hres.2.1.1
  refine mk_i (by decide) (eok l D cI cT) (by simp [Value.category]) (Nat.le_of_ble_eq_true rfl) (fun J X hR => ?_)
  show J S 0 [some (.ref B), some (.int s), some (.int c)] []
  have hbad : ¬ (sl s ∧ rs c) → J S 14 [some (.ref B), some (.int s), some (.int c)] [] := by
    intro h
    refine r_bipush X (x := (-9)) d_Desk_constant_14 (by decide) ?_
    exact hR _ _ _ _ d_Desk_constant_16 rfl ⟨_, rfl, V, Or.inl ⟨h, rfl, rfl⟩, hV, Ex.rf _ _⟩
  refine r_iload_n X d_Desk_constant_0 (by rfl) ?_
  refine r_cSi X ls_Desk_39 c_isSlot (by decide) rfl (Nat.le_of_ble_eq_true rfl) d_Desk_constant_1 rfl (fun Sx rx hx => ?_)
  obtain ⟨hxs, hx⟩ := hx
  replace hxs := hxs.symm
  subst hxs
  rcases hx with ⟨rfl, g1⟩ | ⟨rfl, g1⟩
  rotate_left
  · refine r_if_eqN X d_Desk_constant_4 (tgt := 14) (by decide) (by omega) (fun _ => ?_) (fun hc => absurd rfl hc)
    exact hbad (fun h => g1 h.1)
  refine r_if_eqN X d_Desk_constant_4 (tgt := 14) (by decide) (by omega) (fun hc => absurd hc (by decide)) (fun _ => ?_)
  refine r_iload_n X d_Desk_constant_7 (by rfl) ?_
  refine r_cSi X ls_Desk_43 c_isResidue (by decide) rfl (Nat.le_of_ble_eq_true rfl) d_Desk_constant_8 rfl (fun Sx rx hx => ?_)
  obtain ⟨hxs, hx⟩ := hx
  replace hxs := hxs.symm
  subst hxs
  rcases hx with ⟨rfl, g2⟩ | ⟨rfl, g2⟩
  rotate_left
  · refine r_if_neN X d_Desk_constant_11 (tgt := 17) (by decide) (by omega) (fun hc => absurd rfl hc) (fun _ => ?_)
    exact hbad (fun h => g2 h.2)
  refine r_if_neN X d_Desk_constant_11 (tgt := 17) (by decide) (by omega) (fun _ => ?_) (fun hc => absurd hc (by decide))
  obtain ⟨k, hk, rfl⟩ := g1
  obtain ⟨x, hx, rfl⟩ := g2
  refine r_aload_n X d_Desk_constant_17 (by rfl) ?_
  refine r_get X lf_Desk_18 d_Desk_constant_18 (by assumption) (by rfl) ?_
  refine r_cVv X lv_Desk_46 (c_tclear hres) (by assumption) (by decide) rfl (Nat.le_of_ble_eq_true rfl) d_Desk_constant_21 rfl (fun S1 h1 => ?_)
  obtain ⟨h1, ho1⟩ := h1
  refine r_aload_n X d_Desk_constant_24 (by rfl) ?_
  refine r_get X lf_Desk_18 d_Desk_constant_25 (by assumption) (by rfl) ?_
  refine r_get X lf_Desk_49 d_Desk_constant_28 (by assumption) (by rfl) ?_
  refine r_iconst X (x := (nI 0)) d_Desk_constant_31 (by decide) ?_
  refine r_iload_n X d_Desk_constant_32 (by rfl) ?_
  refine r_cVv X lv_Desk_53 (c_setLinear (a := 0) (b := x) hres.2.1 (by decide) hx) (by assumption) (by decide) rfl (Nat.le_of_ble_eq_true rfl) d_Desk_constant_33 rfl (fun S2 h2 => ?_)
  obtain ⟨h2, ho2⟩ := h2
  have ht2 : tIs S2 (B + 34) 64 (lin 0 x) (fun _ => 0) 1 := ⟨h2, by rw [ho2.a1 (by omega)]; exact h1.2.1, by rw [ho2.a2 (by omega)]; exact h1.2.2⟩
  have hx2 : exD B S S2 := (ho1.ex (fun a h1 h2 => by omega)).trans (ho2.ex (fun a h1 h2 => by omega))
  have hV2 : Rep S2 B V := (hV.ex (ho1.ex (P := fun a => B + 34 ≤ a) (fun a h1 h2 => h1)) (fun a h1 h2 => by omega)).ex (ho2.ex (P := fun a => B + 34 ≤ a) (fun a h1 h2 => by omega)) (fun a h1 h2 => by omega)
  refine r_aload_n X d_Desk_constant_36 (by rfl) ?_
  refine r_iload_n X d_Desk_constant_37 (by rfl) ?_
  refine r_cVi X lv_Desk_59 (c_keep (k := k) hd0 hk hV2 (lin_ok (by decide) hx (by decide)) zeroE_ok ht2) (by assumption) (by decide) rfl (Nat.le_of_ble_eq_true rfl) d_Desk_constant_38 rfl (fun S3 r h3 => ?_)
  obtain ⟨V', h3, hV3, hx3⟩ := h3
  exact hR _ _ _ _ d_Desk_constant_41 rfl ⟨_, rfl, V', Or.inr ⟨k, x, hk, hx, rfl, rfl, h3⟩, hV3, hx2.trans hx3⟩
def O_lin (V : Vt) (s a b : Int32) (r : Int32) (V' : Vt) : Prop := (¬ (sl s ∧ rs a ∧ rs b) ∧ r = -9 ∧ V' = V) ∨ ∃ k x y, k < 8 ∧ x < 10007 ∧ y < 10007 ∧ s = nI k ∧ a = nI x ∧ b = nI y ∧ Kp (lin x y) (fun _ => 0) 1 V k r V'
set_option maxHeartbeats 4000000 in
set_option maxRecDepth 100000 in
theorem c_linear {B : Nat} {s c b : Int32} {V : Vt} (hd : isD G cT B) (hV : Rep S B V) : CT (mkE l D cI cT) G y_Desk_linear b_Desk_linear 4 (some .int) 6 [.ref B, .int s, .int c, .int b] S (Pi (fun S' r => ∃ V', O_lin V s c b r V' ∧ Rep S' B V' ∧ exD B S S')) := by
  have hd0 := hd
  obtain ⟨hB, hA, hsl, hres, hrem, hC, hSp⟩ := hd
  have hrT := hres.1
  have hrP := hres.2.1.1
  refine mk_i (by decide) (eok l D cI cT) (by simp [Value.category]) (Nat.le_of_ble_eq_true rfl) (fun J X hR => ?_)
  show J S 0 [some (.ref B), some (.int s), some (.int c), some (.int b)] []
  have hbad : ¬ (sl s ∧ rs c ∧ rs b) → J S 21 [some (.ref B), some (.int s), some (.int c), some (.int b)] [] := by
    intro h
    refine r_bipush X (x := (-9)) d_Desk_linear_21 (by decide) ?_
    exact hR _ _ _ _ d_Desk_linear_23 rfl ⟨_, rfl, V, Or.inl ⟨h, rfl, rfl⟩, hV, Ex.rf _ _⟩
  refine r_iload_n X d_Desk_linear_0 (by rfl) ?_
  refine r_cSi X ls_Desk_39 c_isSlot (by decide) rfl (Nat.le_of_ble_eq_true rfl) d_Desk_linear_1 rfl (fun Sx rx hx => ?_)
  obtain ⟨hxs, hx⟩ := hx
  replace hxs := hxs.symm
  subst hxs
  rcases hx with ⟨rfl, g1⟩ | ⟨rfl, g1⟩
  rotate_left
  · refine r_if_eqN X d_Desk_linear_4 (tgt := 21) (by decide) (by omega) (fun _ => ?_) (fun hc => absurd rfl hc)
    exact hbad (fun h => g1 h.1)
  refine r_if_eqN X d_Desk_linear_4 (tgt := 21) (by decide) (by omega) (fun hc => absurd hc (by decide)) (fun _ => ?_)
  refine r_iload_n X d_Desk_linear_7 (by rfl) ?_
  refine r_cSi X ls_Desk_43 c_isResidue (by decide) rfl (Nat.le_of_ble_eq_true rfl) d_Desk_linear_8 rfl (fun Sx rx hx => ?_)
  obtain ⟨hxs, hx⟩ := hx
  replace hxs := hxs.symm
  subst hxs
  rcases hx with ⟨rfl, g2⟩ | ⟨rfl, g2⟩
  rotate_left
  · refine r_if_eqN X d_Desk_linear_11 (tgt := 21) (by decide) (by omega) (fun _ => ?_) (fun hc => absurd rfl hc)
    exact hbad (fun h => g2 h.2.1)
  refine r_if_eqN X d_Desk_linear_11 (tgt := 21) (by decide) (by omega) (fun hc => absurd hc (by decide)) (fun _ => ?_)
  refine r_iload_n X d_Desk_linear_14 (by rfl) ?_
  refine r_cSi X ls_Desk_43 c_isResidue (by decide) rfl (Nat.le_of_ble_eq_true rfl) d_Desk_linear_15 rfl (fun Sx rx hx => ?_)
  obtain ⟨hxs, hx⟩ := hx
  replace hxs := hxs.symm
  subst hxs
  rcases hx with ⟨rfl, g3⟩ | ⟨rfl, g3⟩
  rotate_left
  · refine r_if_neN X d_Desk_linear_18 (tgt := 24) (by decide) (by omega) (fun hc => absurd rfl hc) (fun _ => ?_)
    exact hbad (fun h => g3 h.2.2)
  refine r_if_neN X d_Desk_linear_18 (tgt := 24) (by decide) (by omega) (fun _ => ?_) (fun hc => absurd hc (by decide))
  obtain ⟨k, hk, rfl⟩ := g1
  obtain ⟨x, hx, rfl⟩ := g2
  obtain ⟨y, hy, rfl⟩ := g3
  refine r_aload_n X d_Desk_linear_24 (by rfl) ?_
  refine r_get X lf_Desk_18 d_Desk_linear_25 (by assumption) (by rfl) ?_
  refine r_cVv X lv_Desk_46 (c_tclear hres) (by assumption) (by decide) rfl (Nat.le_of_ble_eq_true rfl) d_Desk_linear_28 rfl (fun S1 h1 => ?_)
  obtain ⟨h1, ho1⟩ := h1
  refine r_aload_n X d_Desk_linear_31 (by rfl) ?_
  refine r_get X lf_Desk_18 d_Desk_linear_32 (by assumption) (by rfl) ?_
  refine r_get X lf_Desk_49 d_Desk_linear_35 (by assumption) (by rfl) ?_
  refine r_iload_n X d_Desk_linear_38 (by rfl) ?_
  refine r_iload_n X d_Desk_linear_39 (by rfl) ?_
  refine r_cVv X lv_Desk_53 (c_setLinear (a := x) (b := y) hres.2.1 hx hy) (by assumption) (by decide) rfl (Nat.le_of_ble_eq_true rfl) d_Desk_linear_40 rfl (fun S2 h2 => ?_)
  obtain ⟨h2, ho2⟩ := h2
  have ht2 : tIs S2 (B + 34) 64 (lin x y) (fun _ => 0) 1 := ⟨h2, by rw [ho2.a1 (by omega)]; exact h1.2.1, by rw [ho2.a2 (by omega)]; exact h1.2.2⟩
  have hx2 : exD B S S2 := (ho1.ex (fun a h1 h2 => by omega)).trans (ho2.ex (fun a h1 h2 => by omega))
  have hV2 : Rep S2 B V := (hV.ex (ho1.ex (P := fun a => B + 34 ≤ a) (fun a h1 h2 => h1)) (fun a h1 h2 => by omega)).ex (ho2.ex (P := fun a => B + 34 ≤ a) (fun a h1 h2 => by omega)) (fun a h1 h2 => by omega)
  refine r_aload_n X d_Desk_linear_43 (by rfl) ?_
  refine r_iload_n X d_Desk_linear_44 (by rfl) ?_
  refine r_cVi X lv_Desk_59 (c_keep (k := k) hd0 hk hV2 (lin_ok hx hy (by decide)) zeroE_ok ht2) (by assumption) (by decide) rfl (Nat.le_of_ble_eq_true rfl) d_Desk_linear_45 rfl (fun S3 r h3 => ?_)
  obtain ⟨V', h3, hV3, hx3⟩ := h3
  exact hR _ _ _ _ d_Desk_linear_48 rfl ⟨_, rfl, V', Or.inr ⟨k, x, y, hk, hx, hy, rfl, rfl, rfl, h3⟩, hV3, hx2.trans hx3⟩
def O_pow (V : Vt) (s z : Int32) (r : Int32) (V' : Vt) : Prop := (¬ (sl s ∧ rs z ∧ z ≠ 0) ∧ r = -9 ∧ V' = V) ∨ ∃ k x, k < 8 ∧ 0 < x ∧ x < 10007 ∧ s = nI k ∧ z = nI x ∧ Kp (lin 0 1) (fun _ => 0) x V k r V'
set_option maxHeartbeats 4000000 in
set_option maxRecDepth 100000 in
theorem c_power {B : Nat} {s z : Int32} {V : Vt} (hd : isD G cT B) (hV : Rep S B V) : CT (mkE l D cI cT) G y_Desk_power b_Desk_power 3 (some .int) 6 [.ref B, .int s, .int z] S (Pi (fun S' r => ∃ V', O_pow V s z r V' ∧ Rep S' B V' ∧ exD B S S')) := by
  have hd0 := hd
  obtain ⟨hB, hA, hsl, hres, hrem, hC, hSp⟩ := hd
  have hrT := hres.1
  have hrP := hres.2.1.1
  refine mk_i (by decide) (eok l D cI cT) (by simp [Value.category]) (Nat.le_of_ble_eq_true rfl) (fun J X hR => ?_)
  show J S 0 [some (.ref B), some (.int s), some (.int z)] []
  have hbad : ¬ (sl s ∧ rs z ∧ z ≠ 0) → J S 18 [some (.ref B), some (.int s), some (.int z)] [] := by
    intro h
    refine r_bipush X (x := (-9)) d_Desk_power_18 (by decide) ?_
    exact hR _ _ _ _ d_Desk_power_20 rfl ⟨_, rfl, V, Or.inl ⟨h, rfl, rfl⟩, hV, Ex.rf _ _⟩
  refine r_iload_n X d_Desk_power_0 (by rfl) ?_
  refine r_cSi X ls_Desk_39 c_isSlot (by decide) rfl (Nat.le_of_ble_eq_true rfl) d_Desk_power_1 rfl (fun Sx rx hx => ?_)
  obtain ⟨hxs, hx⟩ := hx
  replace hxs := hxs.symm
  subst hxs
  rcases hx with ⟨rfl, g1⟩ | ⟨rfl, g1⟩
  rotate_left
  · refine r_if_eqN X d_Desk_power_4 (tgt := 18) (by decide) (by omega) (fun _ => ?_) (fun hc => absurd rfl hc)
    exact hbad (fun h => g1 h.1)
  refine r_if_eqN X d_Desk_power_4 (tgt := 18) (by decide) (by omega) (fun hc => absurd hc (by decide)) (fun _ => ?_)
  refine r_iload_n X d_Desk_power_7 (by rfl) ?_
  refine r_cSi X ls_Desk_43 c_isResidue (by decide) rfl (Nat.le_of_ble_eq_true rfl) d_Desk_power_8 rfl (fun Sx rx hx => ?_)
  obtain ⟨hxs, hx⟩ := hx
  replace hxs := hxs.symm
  subst hxs
  rcases hx with ⟨rfl, g2⟩ | ⟨rfl, g2⟩
  rotate_left
  · refine r_if_eqN X d_Desk_power_11 (tgt := 18) (by decide) (by omega) (fun _ => ?_) (fun hc => absurd rfl hc)
    exact hbad (fun h => g2 h.2.1)
  refine r_if_eqN X d_Desk_power_11 (tgt := 18) (by decide) (by omega) (fun hc => absurd hc (by decide)) (fun _ => ?_)
  refine r_iload_n X d_Desk_power_14 (by rfl) ?_
  refine r_if_ne X d_Desk_power_15 (tgt := 21) (by decide) (fun g3 => ?_) (fun g3 => hbad (fun h => h.2.2 g3))
  obtain ⟨k, hk, rfl⟩ := g1
  obtain ⟨x, hx, rfl⟩ := g2
  have hx0 : 0 < x := by
    rcases Nat.eq_zero_or_pos x with h | h
    · exact absurd (by rw [h]; exact nI_0) g3
    · exact h
  refine r_aload_n X d_Desk_power_21 (by rfl) ?_
  refine r_get X lf_Desk_18 d_Desk_power_22 (by assumption) (by rfl) ?_
  refine r_cVv X lv_Desk_46 (c_tclear hres) (by assumption) (by decide) rfl (Nat.le_of_ble_eq_true rfl) d_Desk_power_25 rfl (fun S1 h1 => ?_)
  obtain ⟨h1, ho1⟩ := h1
  refine r_aload_n X d_Desk_power_28 (by rfl) ?_
  refine r_get X lf_Desk_18 d_Desk_power_29 (by assumption) (by rfl) ?_
  refine r_iload_n X d_Desk_power_32 (by rfl) ?_
  refine r_put X lp_Desk_63 d_Desk_power_33 (by assumption) (by rfl) (Nat.le_of_ble_eq_true rfl) ?_
  refine r_aload_n X d_Desk_power_36 (by rfl) ?_
  refine r_get X lf_Desk_18 d_Desk_power_37 (by assumption) (by rfl) ?_
  refine r_get X lf_Desk_49 d_Desk_power_40 (by assumption) (by rfl) ?_
  refine r_iconst X (x := (nI 0)) d_Desk_power_43 (by decide) ?_
  refine r_iconst X (x := (nI 1)) d_Desk_power_44 (by decide) ?_
  have ho4 : Out S1 (fdS S1 (B + 34) (nI x)) (B + 34) 1 := Out.fd (by omega) (by omega)
  have e4 : (fdS S1 (B + 34) (nI x)).2 (B + 34) = nI x := fdS_2 _ _ _
  revert ho4 e4
  generalize fdS S1 (B + 34) (nI x) = S4
  intro ho4 e4
  refine r_cVv X lv_Desk_53 (c_setLinear (a := 0) (b := 1) hres.2.1 (by decide) (by decide)) (by assumption) (by decide) rfl (Nat.le_of_ble_eq_true rfl) d_Desk_power_45 rfl (fun S2 h2 => ?_)
  obtain ⟨h2, ho2⟩ := h2
  have ht2 : tIs S2 (B + 34) 64 (lin 0 1) (fun _ => 0) x := ⟨h2, by rw [ho2.a1 (by omega), ho4.a1 (by omega)]; exact h1.2.1, by rw [ho2.a2 (by omega)]; exact e4⟩
  have hx2 : exD B S S2 := ((ho1.ex (fun a h1 h2 => by omega)).trans (ho4.ex (fun a h1 h2 => by omega))).trans (ho2.ex (fun a h1 h2 => by omega))
  have hV2 : Rep S2 B V := ((hV.ex (ho1.ex (P := fun a => B + 34 ≤ a) (fun a h1 h2 => h1)) (fun a h1 h2 => by omega)).ex (ho4.ex (P := fun a => B + 34 ≤ a) (fun a h1 h2 => by omega)) (fun a h1 h2 => by omega)).ex (ho2.ex (P := fun a => B + 34 ≤ a) (fun a h1 h2 => by omega)) (fun a h1 h2 => by omega)
  refine r_aload_n X d_Desk_power_48 (by rfl) ?_
  refine r_iload_n X d_Desk_power_49 (by rfl) ?_
  refine r_cVi X lv_Desk_59 (c_keep (k := k) hd0 hk hV2 (lin_ok (by decide) (by decide) (by decide)) zeroE_ok ht2) (by assumption) (by decide) rfl (Nat.le_of_ble_eq_true rfl) d_Desk_power_50 rfl (fun S3 r h3 => ?_)
  obtain ⟨V', h3, hV3, hx3⟩ := h3
  exact hR _ _ _ _ d_Desk_power_53 rfl ⟨_, rfl, V', Or.inr ⟨k, x, hk, hx0, hx, rfl, rfl, h3⟩, hV3, hx2.trans hx3⟩
def O_pole (V : Vt) (s b e : Int32) (r : Int32) (V' : Vt) : Prop := (¬ (sl s ∧ sl b ∧ px3 e) ∧ r = -9 ∧ V' = V) ∨ ∃ k x y, k < 8 ∧ x < 8 ∧ 1 ≤ y ∧ y ≤ 3 ∧ s = nI k ∧ b = nI x ∧ e = nI y ∧ Kp (lin 0 1) (va_up (fun _ => 0) x y) 1 V k r V'
set_option maxHeartbeats 4000000 in
set_option maxRecDepth 100000 in
theorem c_pole {B : Nat} {s c b : Int32} {V : Vt} (hd : isD G cT B) (hV : Rep S B V) : CT (mkE l D cI cT) G y_Desk_pole b_Desk_pole 4 (some .int) 6 [.ref B, .int s, .int c, .int b] S (Pi (fun S' r => ∃ V', O_pole V s c b r V' ∧ Rep S' B V' ∧ exD B S S')) := by
  have hd0 := hd
  obtain ⟨hB, hA, hsl, hres, hrem, hC, hSp⟩ := hd
  have hrT := hres.1
  have hrP := hres.2.1.1
  have hrE := hres.2.2
  refine mk_i (by decide) (eok l D cI cT) (by simp [Value.category]) (Nat.le_of_ble_eq_true rfl) (fun J X hR => ?_)
  show J S 0 [some (.ref B), some (.int s), some (.int c), some (.int b)] []
  have hbad : ¬ (sl s ∧ sl c ∧ px3 b) → J S 21 [some (.ref B), some (.int s), some (.int c), some (.int b)] [] := by
    intro h
    refine r_bipush X (x := (-9)) d_Desk_pole_21 (by decide) ?_
    exact hR _ _ _ _ d_Desk_pole_23 rfl ⟨_, rfl, V, Or.inl ⟨h, rfl, rfl⟩, hV, Ex.rf _ _⟩
  refine r_iload_n X d_Desk_pole_0 (by rfl) ?_
  refine r_cSi X ls_Desk_39 c_isSlot (by decide) rfl (Nat.le_of_ble_eq_true rfl) d_Desk_pole_1 rfl (fun Sx rx hx => ?_)
  obtain ⟨hxs, hx⟩ := hx
  replace hxs := hxs.symm
  subst hxs
  rcases hx with ⟨rfl, g1⟩ | ⟨rfl, g1⟩
  rotate_left
  · refine r_if_eqN X d_Desk_pole_4 (tgt := 21) (by decide) (by omega) (fun _ => ?_) (fun hc => absurd rfl hc)
    exact hbad (fun h => g1 h.1)
  refine r_if_eqN X d_Desk_pole_4 (tgt := 21) (by decide) (by omega) (fun hc => absurd hc (by decide)) (fun _ => ?_)
  refine r_iload_n X d_Desk_pole_7 (by rfl) ?_
  refine r_cSi X ls_Desk_67 c_isPole (by decide) rfl (Nat.le_of_ble_eq_true rfl) d_Desk_pole_8 rfl (fun Sx rx hx => ?_)
  obtain ⟨hxs, hx⟩ := hx
  replace hxs := hxs.symm
  subst hxs
  rcases hx with ⟨rfl, g2⟩ | ⟨rfl, g2⟩
  rotate_left
  · refine r_if_eqN X d_Desk_pole_11 (tgt := 21) (by decide) (by omega) (fun _ => ?_) (fun hc => absurd rfl hc)
    exact hbad (fun h => g2 h.2.1)
  refine r_if_eqN X d_Desk_pole_11 (tgt := 21) (by decide) (by omega) (fun hc => absurd hc (by decide)) (fun _ => ?_)
  refine r_iload_n X d_Desk_pole_14 (by rfl) ?_
  refine r_cSi X ls_Desk_70 c_isPosExp (by decide) rfl (Nat.le_of_ble_eq_true rfl) d_Desk_pole_15 rfl (fun Sx rx hx => ?_)
  obtain ⟨hxs, hx⟩ := hx
  replace hxs := hxs.symm
  subst hxs
  rcases hx with ⟨rfl, g3⟩ | ⟨rfl, g3⟩
  rotate_left
  · refine r_if_neN X d_Desk_pole_18 (tgt := 24) (by decide) (by omega) (fun hc => absurd rfl hc) (fun _ => ?_)
    exact hbad (fun h => g3 h.2.2)
  refine r_if_neN X d_Desk_pole_18 (tgt := 24) (by decide) (by omega) (fun _ => ?_) (fun hc => absurd hc (by decide))
  obtain ⟨k, hk, rfl⟩ := g1
  obtain ⟨x, hx, rfl⟩ := g2
  obtain ⟨y, hy1, hy3, rfl⟩ := g3
  refine r_aload_n X d_Desk_pole_24 (by rfl) ?_
  refine r_get X lf_Desk_18 d_Desk_pole_25 (by assumption) (by rfl) ?_
  refine r_cVv X lv_Desk_46 (c_tclear hres) (by assumption) (by decide) rfl (Nat.le_of_ble_eq_true rfl) d_Desk_pole_28 rfl (fun S1 h1 => ?_)
  obtain ⟨h1, ho1⟩ := h1
  refine r_aload_n X d_Desk_pole_31 (by rfl) ?_
  refine r_get X lf_Desk_18 d_Desk_pole_32 (by assumption) (by rfl) ?_
  refine r_get X lf_Desk_49 d_Desk_pole_35 (by assumption) (by rfl) ?_
  refine r_iconst X (x := (nI 0)) d_Desk_pole_38 (by decide) ?_
  refine r_iconst X (x := (nI 1)) d_Desk_pole_39 (by decide) ?_
  refine r_cVv X lv_Desk_53 (c_setLinear (a := 0) (b := 1) hres.2.1 (by decide) (by decide)) (by assumption) (by decide) rfl (Nat.le_of_ble_eq_true rfl) d_Desk_pole_40 rfl (fun S2 h2 => ?_)
  obtain ⟨h2, ho2⟩ := h2
  have e2 : S2.1 (B + 34 + 3) = fun _ => 0 := by rw [ho2.a1 (by omega)]; exact h1.2.1
  refine r_aload_n X d_Desk_pole_43 (by rfl) ?_
  refine r_get X lf_Desk_18 d_Desk_pole_44 (by assumption) (by rfl) ?_
  refine r_get X lf_Desk_73 d_Desk_pole_47 (by assumption) (by rfl) ?_
  refine r_iload_n X d_Desk_pole_50 (by rfl) ?_
  refine r_iload_n X d_Desk_pole_51 (by rfl) ?_
  refine r_iast X d_Desk_pole_52 (by assumption) (by omega) (by omega) ?_
  refine r_aload_n X d_Desk_pole_53 (by rfl) ?_
  refine r_iload_n X d_Desk_pole_54 (by rfl) ?_
  have ho4 : Out S2 (arS S2 (B + 34 + 3) (va_up (S2.1 (B + 34 + 3)) x y)) (B + 34 + 3) 1 := Out.ar (by omega) (by omega)
  have ht2 : tIs (arS S2 (B + 34 + 3) (va_up (S2.1 (B + 34 + 3)) x y)) (B + 34) 64 (lin 0 1) (va_up (fun _ => 0) x y) 1 := ⟨h2.out ho4 (by omega), by rw [arS_1, e2], by rw [arS_2, ho2.a2 (by omega)]; exact h1.2.2⟩
  revert ho4 ht2
  generalize arS S2 (B + 34 + 3) (va_up (S2.1 (B + 34 + 3)) x y) = S4
  intro ho4 ht2
  have hx2 : exD B S S4 := ((ho1.ex (fun a h1 h2 => by omega)).trans (ho2.ex (fun a h1 h2 => by omega))).trans (ho4.ex (fun a h1 h2 => by omega))
  have hV2 : Rep S4 B V := ((hV.ex (ho1.ex (P := fun a => B + 34 ≤ a) (fun a h1 h2 => h1)) (fun a h1 h2 => by omega)).ex (ho2.ex (P := fun a => B + 34 ≤ a) (fun a h1 h2 => by omega)) (fun a h1 h2 => by omega)).ex (ho4.ex (P := fun a => B + 34 ≤ a) (fun a h1 h2 => by omega)) (fun a h1 h2 => by omega)
  refine r_cVi X lv_Desk_59 (c_keep (k := k) hd0 hk hV2 (lin_ok (by decide) (by decide) (by decide)) (zeroE_ok.up (by omega) (by omega)) ht2) (by assumption) (by decide) rfl (Nat.le_of_ble_eq_true rfl) d_Desk_pole_55 rfl (fun S3 r h3 => ?_)
  obtain ⟨V', h3, hV3, hx3⟩ := h3
  exact hR _ _ _ _ d_Desk_pole_58 rfl ⟨_, rfl, V', Or.inr ⟨k, x, y, hk, hx, hy1, hy3, rfl, rfl, rfl, h3⟩, hV3, hx2.trans hx3⟩
def addN (T U : (Nat → Nat) × ((Nat → Nat) × Nat)) : Nat → Nat := cmb 1 T.1 T.2.1 U.1 U.2.1
def O_add (V : Vt) (d a b : Int32) (r : Int32) (V' : Vt) : Prop := (¬ (sl d ∧ sl a ∧ sl b) ∧ r = -9 ∧ V' = V) ∨ ∃ k x y, k < 8 ∧ x < 8 ∧ y < 8 ∧ d = nI k ∧ a = nI x ∧ b = nI y ∧ ((0 < tp (V x).1 32 ∧ 0 < tp (V y).1 32 ∧ (V x).2.2 ≠ (V y).2.2 ∧ r = -8 ∧ V' = V) ∨ (¬ (0 < tp (V x).1 32 ∧ 0 < tp (V y).1 32 ∧ (V x).2.2 ≠ (V y).2.2) ∧ Kp (nrN 64 (addN (V x) (V y)) (mxE (V x).2.1 (V y).2.1)) (nrE 64 (addN (V x) (V y)) (mxE (V x).2.1 (V y).2.1)) (nrZ 64 (addN (V x) (V y)) (if tp (V x).1 32 = 0 then (V y).2.2 else (V x).2.2)) V k r V'))
set_option maxHeartbeats 4000000 in
set_option maxRecDepth 100000 in
theorem c_add {B : Nat} {d a b : Int32} {V : Vt} (hd : isD G cT B) (hV : Rep S B V) (hw : wfV V) : CT (mkE l D cI cT) G y_Desk_add b_Desk_add 4 (some .int) 6 [.ref B, .int d, .int a, .int b] S (Pi (fun S' r => ∃ V', O_add V d a b r V' ∧ Rep S' B V' ∧ exD B S S')) := by
  have hd0 := hd
  obtain ⟨hB, hA, hsl, hres, hrem, hC, hSp⟩ := hd
  have hCC := hC.1
  have hrT := hres.1
  refine mk_i (by decide) (eok l D cI cT) (by simp [Value.category]) (Nat.le_of_ble_eq_true rfl) (fun J X hR => ?_)
  show J S 0 [some (.ref B), some (.int d), some (.int a), some (.int b)] []
  have hbad : ¬ (sl d ∧ sl a ∧ sl b) → J S 21 [some (.ref B), some (.int d), some (.int a), some (.int b)] [] := by
    intro h
    refine r_bipush X (x := (-9)) d_Desk_add_21 (by decide) ?_
    exact hR _ _ _ _ d_Desk_add_23 rfl ⟨_, rfl, V, Or.inl ⟨h, rfl, rfl⟩, hV, Ex.rf _ _⟩
  refine r_iload_n X d_Desk_add_0 (by rfl) ?_
  refine r_cSi X ls_Desk_39 c_isSlot (by decide) rfl (Nat.le_of_ble_eq_true rfl) d_Desk_add_1 rfl (fun Sx rx hx => ?_)
  obtain ⟨hxs, hx⟩ := hx
  replace hxs := hxs.symm
  subst hxs
  rcases hx with ⟨rfl, g1⟩ | ⟨rfl, g1⟩
  rotate_left
  · refine r_if_eqN X d_Desk_add_4 (tgt := 21) (by decide) (by omega) (fun _ => ?_) (fun hc => absurd rfl hc)
    exact hbad (fun h => g1 h.1)
  refine r_if_eqN X d_Desk_add_4 (tgt := 21) (by decide) (by omega) (fun hc => absurd hc (by decide)) (fun _ => ?_)
  refine r_iload_n X d_Desk_add_7 (by rfl) ?_
  refine r_cSi X ls_Desk_39 c_isSlot (by decide) rfl (Nat.le_of_ble_eq_true rfl) d_Desk_add_8 rfl (fun Sx rx hx => ?_)
  obtain ⟨hxs, hx⟩ := hx
  replace hxs := hxs.symm
  subst hxs
  rcases hx with ⟨rfl, g2⟩ | ⟨rfl, g2⟩
  rotate_left
  · refine r_if_eqN X d_Desk_add_11 (tgt := 21) (by decide) (by omega) (fun _ => ?_) (fun hc => absurd rfl hc)
    exact hbad (fun h => g2 h.2.1)
  refine r_if_eqN X d_Desk_add_11 (tgt := 21) (by decide) (by omega) (fun hc => absurd hc (by decide)) (fun _ => ?_)
  refine r_iload_n X d_Desk_add_14 (by rfl) ?_
  refine r_cSi X ls_Desk_39 c_isSlot (by decide) rfl (Nat.le_of_ble_eq_true rfl) d_Desk_add_15 rfl (fun Sx rx hx => ?_)
  obtain ⟨hxs, hx⟩ := hx
  replace hxs := hxs.symm
  subst hxs
  rcases hx with ⟨rfl, g3⟩ | ⟨rfl, g3⟩
  rotate_left
  · refine r_if_neN X d_Desk_add_18 (tgt := 24) (by decide) (by omega) (fun hc => absurd rfl hc) (fun _ => ?_)
    exact hbad (fun h => g3 h.2.2)
  refine r_if_neN X d_Desk_add_18 (tgt := 24) (by decide) (by omega) (fun _ => ?_) (fun hc => absurd hc (by decide))
  obtain ⟨k, hk, rfl⟩ := g1
  obtain ⟨x, hx, rfl⟩ := g2
  obtain ⟨y, hy, rfl⟩ := g3
  have hxT := (hsl x hx).1
  have hyT := (hsl y hy).1
  have wx := hw x hx
  have wy := hw y hy
  have zx := wx.2.2.2.2
  have zy := wy.2.2.2.2
  have main : ¬ (0 < tp (V x).1 32 ∧ 0 < tp (V y).1 32 ∧ (V x).2.2 ≠ (V y).2.2) → J S 72 [some (.ref B), some (.int (nI k)), some (.int (nI x)), some (.int (nI y))] [] := by
    intro hm
    refine r_aload_n X d_Desk_add_72 (by rfl) ?_
    refine r_get X lf_Desk_28 d_Desk_add_73 (by assumption) (by rfl) ?_
    refine r_aload_n X d_Desk_add_76 (by rfl) ?_
    refine r_get X lf_Desk_18 d_Desk_add_77 (by assumption) (by rfl) ?_
    refine r_aload_n X d_Desk_add_80 (by rfl) ?_
    refine r_get X lf_Desk_11 d_Desk_add_81 (by assumption) (by rfl) ?_
    refine r_iload_n X d_Desk_add_84 (by rfl) ?_
    refine r_aald X d_Desk_add_85 (by assumption) rfl (by omega) (by omega) (slf_at (by omega)) ?_
    refine r_aload_n X d_Desk_add_86 (by rfl) ?_
    refine r_get X lf_Desk_11 d_Desk_add_87 (by assumption) (by rfl) ?_
    refine r_iload_n X d_Desk_add_90 (by rfl) ?_
    refine r_aald X d_Desk_add_91 (by assumption) rfl (by omega) (by omega) (slf_at (by omega)) ?_
    refine r_iconst X (x := (nI 1)) d_Desk_add_92 (by decide) ?_
    refine r_cVv X lv_Desk_81 (c_combine (x := 1) hC hres (hsl x hx) (hsl y hy) (by omega) (by omega) (by omega) (by omega) (by omega) wx.1 wy.1 wx.e wy.e (by decide) (hV x hx) (hV y hy)) (by assumption) (by decide) rfl (Nat.le_of_ble_eq_true rfl) d_Desk_add_93 rfl (fun S2 h2 => ?_)
    obtain ⟨h2, hx2⟩ := h2
    have hok := nrN_ok (ads_ok 64 1 (wd 64 (fun i => max ((V x).2.1 i) ((V y).2.1 i) - (V x).2.1 i) 9 (cut 64 (V x).1)) (wd 64 (fun i => max ((V x).2.1 i) ((V y).2.1 i) - (V y).2.1 i) 9 (cut 64 (V y).1))) (mxE_ok wx.e wy.e)
    refine r_aload_n X d_Desk_add_96 (by rfl) ?_
    refine r_iload_n X d_Desk_add_97 (by rfl) ?_
    refine r_cVi X lv_Desk_59 (c_keep (k := k) hd0 hk (hV.ex hx2 (fun a h1 h2 => by omega)) hok.1 hok.2 h2) (by assumption) (by decide) rfl (Nat.le_of_ble_eq_true rfl) d_Desk_add_98 rfl (fun S3 r h3 => ?_)
    obtain ⟨V', h3, hV3, hx3⟩ := h3
    exact hR _ _ _ _ d_Desk_add_101 rfl ⟨_, rfl, V', Or.inr ⟨k, x, y, hk, hx, hy, rfl, rfl, rfl, Or.inr ⟨hm, h3⟩⟩, hV3, (hx2.mono (fun a h => by omega)).trans hx3⟩
  refine r_aload_n X d_Desk_add_24 (by rfl) ?_
  refine r_get X lf_Desk_11 d_Desk_add_25 (by assumption) (by rfl) ?_
  refine r_iload_n X d_Desk_add_28 (by rfl) ?_
  refine r_aald X d_Desk_add_29 (by assumption) rfl (by omega) (by omega) (slf_at (by omega)) ?_
  refine r_cVi X lv_Desk_77 (c_isZero (hsl x hx) (hV x hx)) (by assumption) (by decide) rfl (Nat.le_of_ble_eq_true rfl) d_Desk_add_30 rfl (fun S1 r h1 => ?_)
  obtain ⟨hxs, h1⟩ := h1
  replace hxs := hxs.symm
  subst hxs
  obtain ⟨rfl, h1⟩ | ⟨rfl, h1⟩ := h1
  · refine r_if_neN X d_Desk_add_33 (tgt := 72) (by decide) (by omega) (fun hc => ?_) (fun hc => ?_)
    · exact main (fun h => by omega)
    · omega
  · refine r_if_neN X d_Desk_add_33 (tgt := 72) (by decide) (by omega) (fun hc => ?_) (fun hc => ?_)
    · omega
    · refine r_aload_n X d_Desk_add_36 (by rfl) ?_
      refine r_get X lf_Desk_11 d_Desk_add_37 (by assumption) (by rfl) ?_
      refine r_iload_n X d_Desk_add_40 (by rfl) ?_
      refine r_aald X d_Desk_add_41 (by assumption) rfl (by omega) (by omega) (slf_at (by omega)) ?_
      refine r_cVi X lv_Desk_77 (c_isZero (hsl y hy) (hV y hy)) (by assumption) (by decide) rfl (Nat.le_of_ble_eq_true rfl) d_Desk_add_42 rfl (fun S1 r h2 => ?_)
      obtain ⟨hxs, h2⟩ := h2
      replace hxs := hxs.symm
      subst hxs
      obtain ⟨rfl, h2⟩ | ⟨rfl, h2⟩ := h2
      · refine r_if_neN X d_Desk_add_45 (tgt := 72) (by decide) (by omega) (fun hc => ?_) (fun hc => ?_)
        · exact main (fun h => by omega)
        · omega
      · refine r_if_neN X d_Desk_add_45 (tgt := 72) (by decide) (by omega) (fun hc => ?_) (fun hc => ?_)
        · omega
        · refine r_aload_n X d_Desk_add_48 (by rfl) ?_
          refine r_get X lf_Desk_11 d_Desk_add_49 (by assumption) (by rfl) ?_
          refine r_iload_n X d_Desk_add_52 (by rfl) ?_
          refine r_aald X d_Desk_add_53 (by assumption) rfl (by omega) (by omega) (slf_at (by omega)) ?_
          refine r_get X lf_Desk_63 d_Desk_add_54 (by assumption) (by rfl) ?_
          rw [(hV x hx).2.2]
          refine r_aload_n X d_Desk_add_57 (by rfl) ?_
          refine r_get X lf_Desk_11 d_Desk_add_58 (by assumption) (by rfl) ?_
          refine r_iload_n X d_Desk_add_61 (by rfl) ?_
          refine r_aald X d_Desk_add_62 (by assumption) rfl (by omega) (by omega) (slf_at (by omega)) ?_
          refine r_get X lf_Desk_63 d_Desk_add_63 (by assumption) (by rfl) ?_
          rw [(hV y hy).2.2]
          refine r_icmp_eqN X d_Desk_add_66 (tgt := 72) (by decide) (by omega) (by omega) (fun hc => ?_) (fun hc => ?_)
          · exact main (fun h => h.2.2 hc)
          · refine r_bipush X (x := (-8)) d_Desk_add_69 (by decide) ?_
            exact hR _ _ _ _ d_Desk_add_71 rfl ⟨_, rfl, V, Or.inr ⟨k, x, y, hk, hx, hy, rfl, rfl, rfl, Or.inl ⟨h1, h2, hc, rfl, rfl⟩⟩, hV, Ex.rf _ _⟩
def mulN (T U : (Nat → Nat) × ((Nat → Nat) × Nat)) : Nat → Nat := prd 64 32 T.1 U.1
def mulE (T U : (Nat → Nat) × ((Nat → Nat) × Nat)) : Nat → Nat := fun i => T.2.1 i + U.2.1 i
def O_mul (V : Vt) (d a b : Int32) (r : Int32) (V' : Vt) : Prop := (¬ (sl d ∧ sl a ∧ sl b) ∧ r = -9 ∧ V' = V) ∨ ∃ k x y, k < 8 ∧ x < 8 ∧ y < 8 ∧ d = nI k ∧ a = nI x ∧ b = nI y ∧ Kp (nrN 64 (mulN (V x) (V y)) (mulE (V x) (V y))) (nrE 64 (mulN (V x) (V y)) (mulE (V x) (V y))) (nrZ 64 (mulN (V x) (V y)) ((V x).2.2 * (V y).2.2 % 10007)) V k r V'
set_option maxHeartbeats 4000000 in
set_option maxRecDepth 100000 in
theorem c_multiply {B : Nat} {d a b : Int32} {V : Vt} (hd : isD G cT B) (hV : Rep S B V) (hw : wfV V) : CT (mkE l D cI cT) G y_Desk_multiply b_Desk_multiply 4 (some .int) 6 [.ref B, .int d, .int a, .int b] S (Pi (fun S' r => ∃ V', O_mul V d a b r V' ∧ Rep S' B V' ∧ exD B S S')) := by
  have hd0 := hd
  obtain ⟨hB, hA, hsl, hres, hrem, hC, hSp⟩ := hd
  have hrT := hres.1
  refine mk_i (by decide) (eok l D cI cT) (by simp [Value.category]) (Nat.le_of_ble_eq_true rfl) (fun J X hR => ?_)
  show J S 0 [some (.ref B), some (.int d), some (.int a), some (.int b)] []
  have hbad : ¬ (sl d ∧ sl a ∧ sl b) → J S 21 [some (.ref B), some (.int d), some (.int a), some (.int b)] [] := by
    intro h
    refine r_bipush X (x := (-9)) d_Desk_multiply_21 (by decide) ?_
    exact hR _ _ _ _ d_Desk_multiply_23 rfl ⟨_, rfl, V, Or.inl ⟨h, rfl, rfl⟩, hV, Ex.rf _ _⟩
  refine r_iload_n X d_Desk_multiply_0 (by rfl) ?_
  refine r_cSi X ls_Desk_39 c_isSlot (by decide) rfl (Nat.le_of_ble_eq_true rfl) d_Desk_multiply_1 rfl (fun Sx rx hx => ?_)
  obtain ⟨hxs, hx⟩ := hx
  replace hxs := hxs.symm
  subst hxs
  rcases hx with ⟨rfl, g1⟩ | ⟨rfl, g1⟩
  rotate_left
  · refine r_if_eqN X d_Desk_multiply_4 (tgt := 21) (by decide) (by omega) (fun _ => ?_) (fun hc => absurd rfl hc)
    exact hbad (fun h => g1 h.1)
  refine r_if_eqN X d_Desk_multiply_4 (tgt := 21) (by decide) (by omega) (fun hc => absurd hc (by decide)) (fun _ => ?_)
  refine r_iload_n X d_Desk_multiply_7 (by rfl) ?_
  refine r_cSi X ls_Desk_39 c_isSlot (by decide) rfl (Nat.le_of_ble_eq_true rfl) d_Desk_multiply_8 rfl (fun Sx rx hx => ?_)
  obtain ⟨hxs, hx⟩ := hx
  replace hxs := hxs.symm
  subst hxs
  rcases hx with ⟨rfl, g2⟩ | ⟨rfl, g2⟩
  rotate_left
  · refine r_if_eqN X d_Desk_multiply_11 (tgt := 21) (by decide) (by omega) (fun _ => ?_) (fun hc => absurd rfl hc)
    exact hbad (fun h => g2 h.2.1)
  refine r_if_eqN X d_Desk_multiply_11 (tgt := 21) (by decide) (by omega) (fun hc => absurd hc (by decide)) (fun _ => ?_)
  refine r_iload_n X d_Desk_multiply_14 (by rfl) ?_
  refine r_cSi X ls_Desk_39 c_isSlot (by decide) rfl (Nat.le_of_ble_eq_true rfl) d_Desk_multiply_15 rfl (fun Sx rx hx => ?_)
  obtain ⟨hxs, hx⟩ := hx
  replace hxs := hxs.symm
  subst hxs
  rcases hx with ⟨rfl, g3⟩ | ⟨rfl, g3⟩
  rotate_left
  · refine r_if_neN X d_Desk_multiply_18 (tgt := 24) (by decide) (by omega) (fun hc => absurd rfl hc) (fun _ => ?_)
    exact hbad (fun h => g3 h.2.2)
  refine r_if_neN X d_Desk_multiply_18 (tgt := 24) (by decide) (by omega) (fun _ => ?_) (fun hc => absurd hc (by decide))
  obtain ⟨k, hk, rfl⟩ := g1
  obtain ⟨x, hx, rfl⟩ := g2
  obtain ⟨y, hy, rfl⟩ := g3
  have wx := hw x hx
  have wy := hw y hy
  refine r_aload_n X d_Desk_multiply_24 (by rfl) ?_
  refine r_get X lf_Desk_18 d_Desk_multiply_25 (by assumption) (by rfl) ?_
  refine r_aload_n X d_Desk_multiply_28 (by rfl) ?_
  refine r_get X lf_Desk_11 d_Desk_multiply_29 (by assumption) (by rfl) ?_
  refine r_iload_n X d_Desk_multiply_32 (by rfl) ?_
  refine r_aald X d_Desk_multiply_33 (by assumption) rfl (by omega) (by omega) (slf_at (by omega)) ?_
  refine r_aload_n X d_Desk_multiply_34 (by rfl) ?_
  refine r_get X lf_Desk_11 d_Desk_multiply_35 (by assumption) (by rfl) ?_
  refine r_iload_n X d_Desk_multiply_38 (by rfl) ?_
  refine r_aald X d_Desk_multiply_39 (by assumption) rfl (by omega) (by omega) (slf_at (by omega)) ?_
  refine r_cVv X lv_Desk_85 (c_tproduct hres (hsl x hx) (hsl y hy) (by omega) (by omega) wx.1 wy.1 wx.e wy.e wx.2.1 wy.2.1 wx.2.2.2.2 wy.2.2.2.2 (hV x hx) (hV y hy)) (by assumption) (by decide) rfl (Nat.le_of_ble_eq_true rfl) d_Desk_multiply_40 rfl (fun S2 h2 => ?_)
  obtain ⟨h2, ho2⟩ := h2
  have hokE : okE (mulE (V x) (V y)) := ⟨fun i => by have := wx.2.1 i; have := wy.2.1 i; show (V x).2.1 i + (V y).2.1 i < 100; omega, fun i hi => by show (V x).2.1 i + (V y).2.1 i = 0; rw [wx.2.2.1 i (by omega), wy.2.2.1 i (by omega)]⟩
  have hok := nrN_ok (prd_ok 64 32 (V x).1 (V y).1) hokE
  have hx2 : Ex (fun a => B + 34 ≤ a ∧ a < B + 38) S S2 := ho2.ex (fun a h1 h2 => by omega)
  refine r_aload_n X d_Desk_multiply_43 (by rfl) ?_
  refine r_iload_n X d_Desk_multiply_44 (by rfl) ?_
  refine r_cVi X lv_Desk_59 (c_keep (k := k) hd0 hk (hV.ex hx2 (fun a h1 h2 => by omega)) hok.1 hok.2 h2) (by assumption) (by decide) rfl (Nat.le_of_ble_eq_true rfl) d_Desk_multiply_45 rfl (fun S3 r h3 => ?_)
  obtain ⟨V', h3, hV3, hx3⟩ := h3
  exact hR _ _ _ _ d_Desk_multiply_48 rfl ⟨_, rfl, V', Or.inr ⟨k, x, y, hk, hx, hy, rfl, rfl, rfl, h3⟩, hV3, (hx2.mono (fun a h => by omega)).trans hx3⟩
def O_shift (V : Vt) (d a : Int32) (r : Int32) (V' : Vt) : Prop := (¬ (sl d ∧ sl a) ∧ r = -9 ∧ V' = V) ∨ ∃ k x, k < 8 ∧ x < 8 ∧ d = nI k ∧ a = nI x ∧ Kp (nxt 64 (V x).2.2 (V x).1) (sh1 (V x).2.1) (V x).2.2 V k r V'
set_option maxHeartbeats 4000000 in
set_option maxRecDepth 100000 in
theorem c_shift {B : Nat} {d a : Int32} {V : Vt} (hd : isD G cT B) (hV : Rep S B V) (hw : wfV V) : CT (mkE l D cI cT) G y_Desk_shift b_Desk_shift 3 (some .int) 6 [.ref B, .int d, .int a] S (Pi (fun S' r => ∃ V', O_shift V d a r V' ∧ Rep S' B V' ∧ exD B S S')) := by
  have hd0 := hd
  obtain ⟨hB, hA, hsl, hres, hrem, hC, hSp⟩ := hd
  have hrT := hres.1
  refine mk_i (by decide) (eok l D cI cT) (by simp [Value.category]) (Nat.le_of_ble_eq_true rfl) (fun J X hR => ?_)
  show J S 0 [some (.ref B), some (.int d), some (.int a)] []
  have hbad : ¬ (sl d ∧ sl a) → J S 14 [some (.ref B), some (.int d), some (.int a)] [] := by
    intro h
    refine r_bipush X (x := (-9)) d_Desk_shift_14 (by decide) ?_
    exact hR _ _ _ _ d_Desk_shift_16 rfl ⟨_, rfl, V, Or.inl ⟨h, rfl, rfl⟩, hV, Ex.rf _ _⟩
  refine r_iload_n X d_Desk_shift_0 (by rfl) ?_
  refine r_cSi X ls_Desk_39 c_isSlot (by decide) rfl (Nat.le_of_ble_eq_true rfl) d_Desk_shift_1 rfl (fun Sx rx hx => ?_)
  obtain ⟨hxs, hx⟩ := hx
  replace hxs := hxs.symm
  subst hxs
  rcases hx with ⟨rfl, g1⟩ | ⟨rfl, g1⟩
  rotate_left
  · refine r_if_eqN X d_Desk_shift_4 (tgt := 14) (by decide) (by omega) (fun _ => ?_) (fun hc => absurd rfl hc)
    exact hbad (fun h => g1 h.1)
  refine r_if_eqN X d_Desk_shift_4 (tgt := 14) (by decide) (by omega) (fun hc => absurd hc (by decide)) (fun _ => ?_)
  refine r_iload_n X d_Desk_shift_7 (by rfl) ?_
  refine r_cSi X ls_Desk_39 c_isSlot (by decide) rfl (Nat.le_of_ble_eq_true rfl) d_Desk_shift_8 rfl (fun Sx rx hx => ?_)
  obtain ⟨hxs, hx⟩ := hx
  replace hxs := hxs.symm
  subst hxs
  rcases hx with ⟨rfl, g2⟩ | ⟨rfl, g2⟩
  rotate_left
  · refine r_if_neN X d_Desk_shift_11 (tgt := 17) (by decide) (by omega) (fun hc => absurd rfl hc) (fun _ => ?_)
    exact hbad (fun h => g2 h.2)
  refine r_if_neN X d_Desk_shift_11 (tgt := 17) (by decide) (by omega) (fun _ => ?_) (fun hc => absurd hc (by decide))
  obtain ⟨k, hk, rfl⟩ := g1
  obtain ⟨x, hx, rfl⟩ := g2
  have wx := hw x hx
  refine r_aload_n X d_Desk_shift_17 (by rfl) ?_
  refine r_get X lf_Desk_18 d_Desk_shift_18 (by assumption) (by rfl) ?_
  refine r_aload_n X d_Desk_shift_21 (by rfl) ?_
  refine r_get X lf_Desk_11 d_Desk_shift_22 (by assumption) (by rfl) ?_
  refine r_iload_n X d_Desk_shift_25 (by rfl) ?_
  refine r_aald X d_Desk_shift_26 (by assumption) rfl (by omega) (by omega) (slf_at (by omega)) ?_
  refine r_cVv X lv_Desk_89 (c_next hres (hsl x hx) (by omega) wx.1 wx.e wx.2.2.2.2 (hV x hx)) (by assumption) (by decide) rfl (Nat.le_of_ble_eq_true rfl) d_Desk_shift_27 rfl (fun S2 h2 => ?_)
  obtain ⟨h2, ho2⟩ := h2
  have hx2 : Ex (fun a => B + 34 ≤ a ∧ a < B + 38) S S2 := ho2.ex (fun a h1 h2 => by omega)
  refine r_aload_n X d_Desk_shift_30 (by rfl) ?_
  refine r_iload_n X d_Desk_shift_31 (by rfl) ?_
  refine r_cVi X lv_Desk_59 (c_keep (k := k) hd0 hk (hV.ex hx2 (fun a h1 h2 => by omega)) (nxt_ok 64 (V x).2.2 wx.1.1) (sh1_ok wx.e) h2) (by assumption) (by decide) rfl (Nat.le_of_ble_eq_true rfl) d_Desk_shift_32 rfl (fun S3 r h3 => ?_)
  obtain ⟨V', h3, hV3, hx3⟩ := h3
  exact hR _ _ _ _ d_Desk_shift_35 rfl ⟨_, rfl, V', Or.inr ⟨k, x, hk, hx, rfl, rfl, h3⟩, hV3, (hx2.mono (fun a h => by omega)).trans hx3⟩
def difN (T : (Nat → Nat) × ((Nat → Nat) × Nat)) : Nat → Nat := cmb 10006 (nxt 64 T.2.2 T.1) (sh1 T.2.1) T.1 T.2.1
def difE (T : (Nat → Nat) × ((Nat → Nat) × Nat)) : Nat → Nat := mxE (sh1 T.2.1) T.2.1
def O_diff (V : Vt) (d a : Int32) (r : Int32) (V' : Vt) : Prop := (¬ (sl d ∧ sl a) ∧ r = -9 ∧ V' = V) ∨ ∃ k x, k < 8 ∧ x < 8 ∧ d = nI k ∧ a = nI x ∧ Kp (nrN 64 (difN (V x)) (difE (V x))) (nrE 64 (difN (V x)) (difE (V x))) (nrZ 64 (difN (V x)) (V x).2.2) V k r V'
set_option maxHeartbeats 4000000 in
set_option maxRecDepth 100000 in
theorem c_difference {B : Nat} {d a : Int32} {V : Vt} (hd : isD G cT B) (hV : Rep S B V) (hw : wfV V) : CT (mkE l D cI cT) G y_Desk_difference b_Desk_difference 3 (some .int) 6 [.ref B, .int d, .int a] S (Pi (fun S' r => ∃ V', O_diff V d a r V' ∧ Rep S' B V' ∧ exD B S S')) := by
  have hd0 := hd
  obtain ⟨hB, hA, hsl, hres, hrem, hC, hSp⟩ := hd
  have hCC := hC.1
  refine mk_i (by decide) (eok l D cI cT) (by simp [Value.category]) (Nat.le_of_ble_eq_true rfl) (fun J X hR => ?_)
  show J S 0 [some (.ref B), some (.int d), some (.int a)] []
  have hbad : ¬ (sl d ∧ sl a) → J S 14 [some (.ref B), some (.int d), some (.int a)] [] := by
    intro h
    refine r_bipush X (x := (-9)) d_Desk_difference_14 (by decide) ?_
    exact hR _ _ _ _ d_Desk_difference_16 rfl ⟨_, rfl, V, Or.inl ⟨h, rfl, rfl⟩, hV, Ex.rf _ _⟩
  refine r_iload_n X d_Desk_difference_0 (by rfl) ?_
  refine r_cSi X ls_Desk_39 c_isSlot (by decide) rfl (Nat.le_of_ble_eq_true rfl) d_Desk_difference_1 rfl (fun Sx rx hx => ?_)
  obtain ⟨hxs, hx⟩ := hx
  replace hxs := hxs.symm
  subst hxs
  rcases hx with ⟨rfl, g1⟩ | ⟨rfl, g1⟩
  rotate_left
  · refine r_if_eqN X d_Desk_difference_4 (tgt := 14) (by decide) (by omega) (fun _ => ?_) (fun hc => absurd rfl hc)
    exact hbad (fun h => g1 h.1)
  refine r_if_eqN X d_Desk_difference_4 (tgt := 14) (by decide) (by omega) (fun hc => absurd hc (by decide)) (fun _ => ?_)
  refine r_iload_n X d_Desk_difference_7 (by rfl) ?_
  refine r_cSi X ls_Desk_39 c_isSlot (by decide) rfl (Nat.le_of_ble_eq_true rfl) d_Desk_difference_8 rfl (fun Sx rx hx => ?_)
  obtain ⟨hxs, hx⟩ := hx
  replace hxs := hxs.symm
  subst hxs
  rcases hx with ⟨rfl, g2⟩ | ⟨rfl, g2⟩
  rotate_left
  · refine r_if_neN X d_Desk_difference_11 (tgt := 17) (by decide) (by omega) (fun hc => absurd rfl hc) (fun _ => ?_)
    exact hbad (fun h => g2 h.2)
  refine r_if_neN X d_Desk_difference_11 (tgt := 17) (by decide) (by omega) (fun _ => ?_) (fun hc => absurd hc (by decide))
  obtain ⟨k, hk, rfl⟩ := g1
  obtain ⟨x, hx, rfl⟩ := g2
  have wx := hw x hx
  refine r_aload_n X d_Desk_difference_17 (by rfl) ?_
  refine r_get X lf_Desk_28 d_Desk_difference_18 (by assumption) (by rfl) ?_
  refine r_aload_n X d_Desk_difference_21 (by rfl) ?_
  refine r_get X lf_Desk_18 d_Desk_difference_22 (by assumption) (by rfl) ?_
  refine r_aload_n X d_Desk_difference_25 (by rfl) ?_
  refine r_get X lf_Desk_11 d_Desk_difference_26 (by assumption) (by rfl) ?_
  refine r_iload_n X d_Desk_difference_29 (by rfl) ?_
  refine r_aald X d_Desk_difference_30 (by assumption) rfl (by omega) (by omega) (slf_at (by omega)) ?_
  refine r_cVv X lv_Desk_93 (c_sub hC hres (hsl x hx) (by omega) (by omega) (by omega) (by omega) (by omega) wx.1 wx.e wx.2.2.2.2 (hV x hx)) (by assumption) (by decide) rfl (Nat.le_of_ble_eq_true rfl) d_Desk_difference_31 rfl (fun S2 h2 => ?_)
  obtain ⟨h2, hx2⟩ := h2
  have hok := nrN_ok (ads_ok 64 10006 (wd 64 (fun i => max (sh1 (V x).2.1 i) ((V x).2.1 i) - sh1 (V x).2.1 i) 9 (cut 64 (nxt 64 (V x).2.2 (V x).1))) (wd 64 (fun i => max (sh1 (V x).2.1 i) ((V x).2.1 i) - (V x).2.1 i) 9 (cut 64 (V x).1))) (mxE_ok (sh1_ok wx.e) wx.e)
  refine r_aload_n X d_Desk_difference_34 (by rfl) ?_
  refine r_iload_n X d_Desk_difference_35 (by rfl) ?_
  refine r_cVi X lv_Desk_59 (c_keep (k := k) hd0 hk (hV.ex hx2 (fun a h1 h2 => by omega)) hok.1 hok.2 h2) (by assumption) (by decide) rfl (Nat.le_of_ble_eq_true rfl) d_Desk_difference_36 rfl (fun S3 r h3 => ?_)
  obtain ⟨V', h3, hV3, hx3⟩ := h3
  exact hR _ _ _ _ d_Desk_difference_39 rfl ⟨_, rfl, V', Or.inr ⟨k, x, hk, hx, rfl, rfl, h3⟩, hV3, (hx2.mono (fun a h => by omega)).trans hx3⟩
end D2
