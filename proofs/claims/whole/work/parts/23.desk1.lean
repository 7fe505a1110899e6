section D1
variable {l : Launch} {D : va_G} {cI cT : ClassId} {G : Gm} {S : Sg}
abbrev Vt : Type := Nat → (Nat → Nat) × ((Nat → Nat) × Nat)
def slf (B : Nat) : Nat → Option Nat := fun i => if i < 8 then some (B + 2 + 4 * i) else none
theorem slf_at {B k : Nat} (h : k < 8) : slf B k = some (B + 2 + 4 * k) := by
  unfold slf
  rw [if_pos h]
def isD (G : Gm) (cT : ClassId) (B : Nat) : Prop := G B = some (kObj iDesk (fun _ => [.ref (B + 1), .ref (B + 34), .ref (B + 38), .ref (B + 42), .ref (B + 49)])) ∧ G (B + 1) = some (kFix (.inl (cT, 8, .inr (.inr (.inr (.inr (slf B))))))) ∧ (∀ k, k < 8 → isT G (B + 2 + 4 * k) 32) ∧ isT G (B + 34) 64 ∧ isT G (B + 38) 64 ∧ isC G (B + 42) ∧ isS G (B + 49)
def Rep (S : Sg) (B : Nat) (V : Vt) : Prop := ∀ k, k < 8 → tIs S (B + 2 + 4 * k) 32 (V k).1 (V k).2.1 (V k).2.2
def wfT (T : (Nat → Nat) × ((Nat → Nat) × Nat)) : Prop := okP 32 T.1 ∧ (∀ i, T.2.1 i ≤ 3) ∧ (∀ i, 8 ≤ i → T.2.1 i = 0) ∧ 0 < T.2.2 ∧ T.2.2 < 10007
theorem wfT.e {T : (Nat → Nat) × ((Nat → Nat) × Nat)} (h : wfT T) : okE T.2.1 := ⟨fun i => by have := h.2.1 i; omega, fun i hi => h.2.2.1 i (by omega)⟩
def wfV (V : Vt) : Prop := ∀ k, k < 8 → wfT (V k)
abbrev exD (B : Nat) : Sg → Sg → Prop := Ex (fun a => B ≤ a ∧ a < B + 58)
theorem Rep.ex {S S1 : Sg} {B : Nat} {V : Vt} {P : Nat → Prop} (h : Rep S B V) (hx : Ex P S S1) (hd : ∀ a, B + 2 ≤ a → a < B + 34 → ¬ P a) : Rep S1 B V := fun k hk => (h k hk).ex hx (fun a h1 h2 => hd a (by omega) (by omega))
def Kp (N e : Nat → Nat) (z : Nat) (V : Vt) (s : Nat) (r : Int32) (V' : Vt) : Prop := (ovr 64 N e ∧ r = -7 ∧ V' = V) ∨ (¬ ovr 64 N e ∧ r = nI 0 ∧ V' = va_up V s (N, e, z))
def sl (x : Int32) : Prop := ∃ k, k < 8 ∧ x = nI k
def rs (x : Int32) : Prop := ∃ k, k < 10007 ∧ x = nI k
def px3 (x : Int32) : Prop := ∃ k, 1 ≤ k ∧ k ≤ 3 ∧ x = nI k
def plc (x : Int32) : Prop := -30 ≤ x.toInt ∧ x.toInt ≤ 1000
theorem nI_neg_no {x : Int32} {k : Nat} (h : x < 0) (hk : k < 2 ^ 31) (e : x = nI k) : False := by
  rw [e] at h
  exact nI_pos hk h
set_option maxHeartbeats 4000000 in
set_option maxRecDepth 100000 in
theorem c_isSlot {x : Int32} : CT (mkE l D cI cT) G y_Desk_isSlot b_Desk_isSlot 1 (some .boolean) 0 [.int x] S (Pi (fun S' r => S' = S ∧ ((r = nI 1 ∧ sl x) ∨ (r = nI 0 ∧ ¬ sl x)))) := by
  refine mk_i (by decide) (eok l D cI cT) (by simp [Value.category]) (Nat.le_of_ble_eq_true rfl) (fun J X hR => ?_)
  show J S 0 [some (.int x)] []
  refine r_iload_n X d_Desk_isSlot_0 (by rfl) ?_
  refine r_if_lt X d_Desk_isSlot_1 (tgt := 14) (by decide) (fun hc => ?_) (fun hc => ?_)
  · refine r_iconst X (x := (nI 0)) d_Desk_isSlot_14 (by decide) ?_
    exact hR _ _ _ _ d_Desk_isSlot_15 (by decide) ⟨_, rfl, rfl, Or.inr ⟨rfl, fun ⟨k, hk, e⟩ => nI_neg_no hc (by omega) e⟩⟩
  · obtain ⟨j, hj, rfl⟩ := nI_of hc
    refine r_iload_n X d_Desk_isSlot_4 (by rfl) ?_
    refine r_bipush X (x := (nI 8)) d_Desk_isSlot_5 (by decide) ?_
    refine r_icmp_geN X d_Desk_isSlot_7 (tgt := 14) (by decide) (by omega) (by omega) (fun hc => ?_) (fun hc => ?_)
    · refine r_iconst X (x := (nI 0)) d_Desk_isSlot_14 (by decide) ?_
      exact hR _ _ _ _ d_Desk_isSlot_15 (by decide) ⟨_, rfl, rfl, Or.inr ⟨rfl, fun ⟨k, hk, e⟩ => by have := (nI_eq hj (by omega)).mp e; omega⟩⟩
    · refine r_iconst X (x := (nI 1)) d_Desk_isSlot_10 (by decide) ?_
      refine r_goto X d_Desk_isSlot_11 (tgt := 15) (by decide) ?_
      exact hR _ _ _ _ d_Desk_isSlot_15 (by decide) ⟨_, rfl, rfl, Or.inl ⟨rfl, j, hc, rfl⟩⟩
set_option maxHeartbeats 4000000 in
set_option maxRecDepth 100000 in
theorem c_isPole {x : Int32} : CT (mkE l D cI cT) G y_Desk_isPole b_Desk_isPole 1 (some .boolean) 0 [.int x] S (Pi (fun S' r => S' = S ∧ ((r = nI 1 ∧ sl x) ∨ (r = nI 0 ∧ ¬ sl x)))) := by
  refine mk_i (by decide) (eok l D cI cT) (by simp [Value.category]) (Nat.le_of_ble_eq_true rfl) (fun J X hR => ?_)
  show J S 0 [some (.int x)] []
  refine r_iload_n X d_Desk_isPole_0 (by rfl) ?_
  refine r_if_lt X d_Desk_isPole_1 (tgt := 14) (by decide) (fun hc => ?_) (fun hc => ?_)
  · refine r_iconst X (x := (nI 0)) d_Desk_isPole_14 (by decide) ?_
    exact hR _ _ _ _ d_Desk_isPole_15 (by decide) ⟨_, rfl, rfl, Or.inr ⟨rfl, fun ⟨k, hk, e⟩ => nI_neg_no hc (by omega) e⟩⟩
  · obtain ⟨j, hj, rfl⟩ := nI_of hc
    refine r_iload_n X d_Desk_isPole_4 (by rfl) ?_
    refine r_bipush X (x := (nI 8)) d_Desk_isPole_5 (by decide) ?_
    refine r_icmp_geN X d_Desk_isPole_7 (tgt := 14) (by decide) (by omega) (by omega) (fun hc => ?_) (fun hc => ?_)
    · refine r_iconst X (x := (nI 0)) d_Desk_isPole_14 (by decide) ?_
      exact hR _ _ _ _ d_Desk_isPole_15 (by decide) ⟨_, rfl, rfl, Or.inr ⟨rfl, fun ⟨k, hk, e⟩ => by have := (nI_eq hj (by omega)).mp e; omega⟩⟩
    · refine r_iconst X (x := (nI 1)) d_Desk_isPole_10 (by decide) ?_
      refine r_goto X d_Desk_isPole_11 (tgt := 15) (by decide) ?_
      exact hR _ _ _ _ d_Desk_isPole_15 (by decide) ⟨_, rfl, rfl, Or.inl ⟨rfl, j, hc, rfl⟩⟩
set_option maxHeartbeats 4000000 in
set_option maxRecDepth 100000 in
theorem c_isResidue {x : Int32} : CT (mkE l D cI cT) G y_Desk_isResidue b_Desk_isResidue 1 (some .boolean) 0 [.int x] S (Pi (fun S' r => S' = S ∧ ((r = nI 1 ∧ rs x) ∨ (r = nI 0 ∧ ¬ rs x)))) := by
  refine mk_i (by decide) (eok l D cI cT) (by simp [Value.category]) (Nat.le_of_ble_eq_true rfl) (fun J X hR => ?_)
  show J S 0 [some (.int x)] []
  refine r_iload_n X d_Desk_isResidue_0 (by rfl) ?_
  refine r_if_lt X d_Desk_isResidue_1 (tgt := 15) (by decide) (fun hc => ?_) (fun hc => ?_)
  · refine r_iconst X (x := (nI 0)) d_Desk_isResidue_15 (by decide) ?_
    exact hR _ _ _ _ d_Desk_isResidue_16 (by decide) ⟨_, rfl, rfl, Or.inr ⟨rfl, fun ⟨k, hk, e⟩ => nI_neg_no hc (by omega) e⟩⟩
  · obtain ⟨j, hj, rfl⟩ := nI_of hc
    refine r_iload_n X d_Desk_isResidue_4 (by rfl) ?_
    refine r_sipush X (x := (nI 10007)) d_Desk_isResidue_5 (by decide) ?_
    refine r_icmp_geN X d_Desk_isResidue_8 (tgt := 15) (by decide) (by omega) (by omega) (fun hc => ?_) (fun hc => ?_)
    · refine r_iconst X (x := (nI 0)) d_Desk_isResidue_15 (by decide) ?_
      exact hR _ _ _ _ d_Desk_isResidue_16 (by decide) ⟨_, rfl, rfl, Or.inr ⟨rfl, fun ⟨k, hk, e⟩ => by have := (nI_eq hj (by omega)).mp e; omega⟩⟩
    · refine r_iconst X (x := (nI 1)) d_Desk_isResidue_11 (by decide) ?_
      refine r_goto X d_Desk_isResidue_12 (tgt := 16) (by decide) ?_
      exact hR _ _ _ _ d_Desk_isResidue_16 (by decide) ⟨_, rfl, rfl, Or.inl ⟨rfl, j, hc, rfl⟩⟩
set_option maxHeartbeats 4000000 in
set_option maxRecDepth 100000 in
theorem c_isPosExp {x : Int32} : CT (mkE l D cI cT) G y_Desk_isPositiveExponent b_Desk_isPositiveExponent 1 (some .boolean) 0 [.int x] S (Pi (fun S' r => S' = S ∧ ((r = nI 1 ∧ px3 x) ∨ (r = nI 0 ∧ ¬ px3 x)))) := by
  refine mk_i (by decide) (eok l D cI cT) (by simp [Value.category]) (Nat.le_of_ble_eq_true rfl) (fun J X hR => ?_)
  show J S 0 [some (.int x)] []
  refine r_iload_n X d_Desk_isPositiveExponent_0 (by rfl) ?_
  refine r_iconst X (x := (nI 1)) d_Desk_isPositiveExponent_1 (by decide) ?_
  refine r_icmp_lt X d_Desk_isPositiveExponent_2 (tgt := 14) (by decide) (fun hc => ?_) (fun hc => ?_)
  · refine r_iconst X (x := (nI 0)) d_Desk_isPositiveExponent_14 (by decide) ?_
    refine hR _ _ _ _ d_Desk_isPositiveExponent_15 (by decide) ⟨_, rfl, rfl, Or.inr ⟨rfl, fun ⟨k, hk, hk3, e⟩ => ?_⟩⟩
    rw [e] at hc
    have := (nI_ltI (by omega) (by omega)).mp hc
    omega
  · have hx0 : ¬ x < 0 := by
      intro h
      refine hc ?_
      rw [Int32.lt_iff_toInt_lt, Int32.toInt_zero] at h
      rw [Int32.lt_iff_toInt_lt, nI_toInt (by omega)]
      omega
    obtain ⟨j, hj, rfl⟩ := nI_of hx0
    have hj1 : ¬ j < 1 := fun h => hc ((nI_ltI hj (by omega)).mpr h)
    refine r_iload_n X d_Desk_isPositiveExponent_5 (by rfl) ?_
    refine r_iconst X (x := (nI 3)) d_Desk_isPositiveExponent_6 (by decide) ?_
    refine r_icmp_gtN X d_Desk_isPositiveExponent_7 (tgt := 14) (by decide) (by omega) (by omega) (fun hc => ?_) (fun hc => ?_)
    · refine r_iconst X (x := (nI 0)) d_Desk_isPositiveExponent_14 (by decide) ?_
      exact hR _ _ _ _ d_Desk_isPositiveExponent_15 (by decide) ⟨_, rfl, rfl, Or.inr ⟨rfl, fun ⟨k, hk, hk3, e⟩ => by have := (nI_eq hj (by omega)).mp e; omega⟩⟩
    · refine r_iconst X (x := (nI 1)) d_Desk_isPositiveExponent_10 (by decide) ?_
      refine r_goto X d_Desk_isPositiveExponent_11 (tgt := 15) (by decide) ?_
      exact hR _ _ _ _ d_Desk_isPositiveExponent_15 (by decide) ⟨_, rfl, rfl, Or.inl ⟨rfl, j, by omega, hc, rfl⟩⟩
set_option maxHeartbeats 4000000 in
set_option maxRecDepth 100000 in
theorem c_isPlace {x : Int32} : CT (mkE l D cI cT) G y_Desk_isPlace b_Desk_isPlace 1 (some .boolean) 0 [.int x] S (Pi (fun S' r => S' = S ∧ ((r = nI 1 ∧ plc x) ∨ (r = nI 0 ∧ ¬ plc x)))) := by
  refine mk_i (by decide) (eok l D cI cT) (by simp [Value.category]) (Nat.le_of_ble_eq_true rfl) (fun J X hR => ?_)
  show J S 0 [some (.int x)] []
  have e30 : (-30 : Int32).toInt = -30 := by decide
  have e1000 : (nI 1000).toInt = 1000 := by decide
  refine r_iload_n X d_Desk_isPlace_0 (by rfl) ?_
  refine r_bipush X (x := (-30)) d_Desk_isPlace_1 (by decide) ?_
  refine r_icmp_lt X d_Desk_isPlace_3 (tgt := 17) (by decide) (fun hc => ?_) (fun hc => ?_)
  · rw [Int32.lt_iff_toInt_lt, e30] at hc
    refine r_iconst X (x := (nI 0)) d_Desk_isPlace_17 (by decide) ?_
    exact hR _ _ _ _ d_Desk_isPlace_18 (by decide) ⟨_, rfl, rfl, Or.inr ⟨rfl, fun h => by have := h.1; omega⟩⟩
  · rw [Int32.lt_iff_toInt_lt, e30] at hc
    refine r_iload_n X d_Desk_isPlace_6 (by rfl) ?_
    refine r_sipush X (x := (nI 1000)) d_Desk_isPlace_7 (by decide) ?_
    refine r_icmp_gt X d_Desk_isPlace_10 (tgt := 17) (by decide) (fun hc2 => ?_) (fun hc2 => ?_)
    · rw [Int32.lt_iff_toInt_lt, e1000] at hc2
      refine r_iconst X (x := (nI 0)) d_Desk_isPlace_17 (by decide) ?_
      exact hR _ _ _ _ d_Desk_isPlace_18 (by decide) ⟨_, rfl, rfl, Or.inr ⟨rfl, fun h => by have := h.2; omega⟩⟩
    · rw [Int32.lt_iff_toInt_lt, e1000] at hc2
      refine r_iconst X (x := (nI 1)) d_Desk_isPlace_13 (by decide) ?_
      refine r_goto X d_Desk_isPlace_14 (tgt := 18) (by decide) ?_
      exact hR _ _ _ _ d_Desk_isPlace_18 (by decide) ⟨_, rfl, rfl, Or.inl ⟨rfl, by omega, by omega⟩⟩
set_option maxHeartbeats 4000000 in
set_option maxRecDepth 100000 in
theorem c_keep {B k z : Nat} {N e : Nat → Nat} {V : Vt} (hd : isD G cT B) (hk : k < 8) (hV : Rep S B V) (hN : okP 64 N) (hE : okE e) (hs : tIs S (B + 34) 64 N e z) : CT (mkE l D cI cT) G y_Desk_keepResult b_Desk_keepResult 2 (some .int) 3 [.ref B, .int (nI k)] S (Pi (fun S' r => ∃ V', Kp N e z V k r V' ∧ Rep S' B V' ∧ exD B S S')) := by
  obtain ⟨hB, hA, hsl, hres, hrem, hC, hSp⟩ := hd
  have hrT := hres.1
  have hkT := (hsl k hk).1
  have htp := tp_le N 64
  refine mk_i (by decide) (eok l D cI cT) (by simp [Value.category]) (Nat.le_of_ble_eq_true rfl) (fun J X hR => ?_)
  show J S 0 [some (.ref B), some (.int (nI k))] []
  refine r_aload_n X d_Desk_keepResult_0 (by rfl) ?_
  refine r_get X lf_Desk_18 d_Desk_keepResult_1 (by assumption) (by rfl) ?_
  refine r_cVi X lv_Desk_100 (c_isOver hres hE hs) (by assumption) (by decide) rfl (Nat.le_of_ble_eq_true rfl) d_Desk_keepResult_4 rfl (fun S1 r h1 => ?_)
  obtain ⟨rfl, ⟨rfl, h1⟩ | ⟨rfl, h1⟩⟩ := h1
  · refine r_if_eqN X d_Desk_keepResult_7 (tgt := 13) (by decide) (by omega) (fun hc => ?_) (fun hc => ?_)
    · omega
    · refine r_bipush X (x := (-7)) d_Desk_keepResult_10 (by decide) ?_
      exact hR _ _ _ _ d_Desk_keepResult_12 rfl ⟨_, rfl, V, Or.inl ⟨h1, rfl, rfl⟩, hV, Ex.rf _ _⟩
  · refine r_if_eqN X d_Desk_keepResult_7 (tgt := 13) (by decide) (by omega) (fun hc => ?_) (fun hc => ?_)
    · refine r_aload_n X d_Desk_keepResult_13 (by rfl) ?_
      refine r_get X lf_Desk_11 d_Desk_keepResult_14 (by assumption) (by rfl) ?_
      refine r_iload_n X d_Desk_keepResult_17 (by rfl) ?_
      refine r_aald X d_Desk_keepResult_18 (by assumption) rfl (by omega) (by omega) (slf_at (by omega)) ?_
      refine r_aload_n X d_Desk_keepResult_19 (by rfl) ?_
      refine r_get X lf_Desk_18 d_Desk_keepResult_20 (by assumption) (by rfl) ?_
      refine r_cVv X lv_Desk_103 (c_tcopy (hsl k hk) hres (by omega) hN hE hs) (by assumption) (by decide) rfl (Nat.le_of_ble_eq_true rfl) d_Desk_keepResult_23 rfl (fun S2 h2 => ?_)
      obtain ⟨h2, ho2⟩ := h2
      have hcut : cut 32 N = N := cut_id (fun i hi => by
        refine hN.tz ?_
        by_cases h : 32 < tp N 64
        · exact absurd (Or.inr (Or.inl h)) h1
        · omega)
      refine r_iconst X (x := (nI 0)) d_Desk_keepResult_26 (by decide) ?_
      refine hR _ _ _ _ d_Desk_keepResult_27 rfl ⟨_, rfl, va_up V k (N, e, z), Or.inr ⟨h1, rfl, rfl⟩, ?_, ho2.ex (fun a h1 h2 => by omega)⟩
      intro j hj
      by_cases h : j = k
      · subst h
        rw [va_up_s]
        rw [hcut] at h2
        exact h2
      · rw [va_up_n h]
        exact (hV j hj).out ho2 (by omega)
    · omega
end D1
