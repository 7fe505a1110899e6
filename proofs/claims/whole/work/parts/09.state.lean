abbrev iPoly : Nat := 0
abbrev iTerm : Nat := 1
abbrev iComb : Nat := 2
abbrev iSplit : Nat := 3
abbrev iDesk : Nat := 4
abbrev iModel : Nat := 5
def Out (S S' : Sg) (q w : Nat) : Prop := ∀ a, (a < q ∨ q + w ≤ a) → S'.1 a = S.1 a ∧ S'.2 a = S.2 a
theorem Out.rf (S : Sg) (q w : Nat) : Out S S q w := fun _ _ => ⟨rfl, rfl⟩
theorem Out.trans {S S1 S2 : Sg} {q w : Nat} (h1 : Out S S1 q w) (h2 : Out S1 S2 q w) : Out S S2 q w := fun a ha => ⟨(h2 a ha).1.trans (h1 a ha).1, (h2 a ha).2.trans (h1 a ha).2⟩
theorem Out.wide {S S1 : Sg} {q w q' w' : Nat} (h : Out S S1 q w) (h1 : q' ≤ q) (h2 : q + w ≤ q' + w') : Out S S1 q' w' := fun a ha => h a (by omega)
theorem Out.fd {S : Sg} {q w a : Nat} {x : Int32} (h1 : q ≤ a) (h2 : a < q + w) : Out S (fdS S a x) q w := fun b hb => ⟨rfl, fdS_2n (by omega)⟩
theorem Out.ar {S : Sg} {q w a : Nat} {f : Nat → Nat} (h1 : q ≤ a) (h2 : a < q + w) : Out S (arS S a f) q w := fun b hb => ⟨arS_1n (by omega), rfl⟩
theorem Out.a1 {S S1 : Sg} {q w a : Nat} (h : Out S S1 q w) (ha : a < q ∨ q + w ≤ a) : S1.1 a = S.1 a := (h a ha).1
theorem Out.a2 {S S1 : Sg} {q w a : Nat} (h : Out S S1 q w) (ha : a < q ∨ q + w ≤ a) : S1.2 a = S.2 a := (h a ha).2
def isP (G : Gm) (q n : Nat) : Prop := G q = some (kObj iPoly (fun v => [.ref (q + 1), .int v])) ∧ G (q + 1) = some (kArr n) ∧ 2 ≤ n ∧ n ≤ 64
def isT (G : Gm) (t n : Nat) : Prop := G t = some (kObj iTerm (fun v => [.ref (t + 1), .ref (t + 3), .int v])) ∧ isP G (t + 1) n ∧ G (t + 3) = some (kArr 9)
def tI (t : Nat) : Int32 := nI t - nI 1
theorem tI_s (t : Nat) : tI (t + 1) = nI t := nI_pred t
theorem tI_0 : tI 0 < 0 := by decide
theorem tI_n (t : Nat) : nI t - nI 1 = tI t := rfl
def pIs (S : Sg) (q n : Nat) (f : Nat → Nat) : Prop := S.1 (q + 1) = f ∧ S.2 q = tI (tp f n)
theorem pIs.out {S S1 : Sg} {q n a w : Nat} {f : Nat → Nat} (h : pIs S q n f) (ho : Out S S1 a w) (hd : q + 2 ≤ a ∨ a + w ≤ q) : pIs S1 q n f :=
  ⟨(ho.a1 (by omega)).trans h.1, (ho.a2 (by omega)).trans h.2⟩
theorem kObj_ne {G : Gm} {a b ci cj : Nat} {F F' : Int32 → List Value} (h1 : G a = some (kObj ci F)) (h2 : G b = some (kObj cj F')) (h : ci ≠ cj) : a ≠ b := by
  intro e
  subst e
  rw [h1] at h2
  have := Option.some.inj h2
  unfold kObj at this
  have := Prod.mk.inj (Sum.inl.inj (Sum.inr.inj this))
  exact h this.1
theorem kArr_ne {G : Gm} {a b ci n : Nat} {F : Int32 → List Value} (h1 : G a = some (kObj ci F)) (h2 : G b = some (kArr n)) : a ≠ b := by
  intro e
  subst e
  rw [h1] at h2
  have := Option.some.inj h2
  unfold kObj kArr at this
  cases this
theorem isP.sep {G : Gm} {q q' n n' : Nat} (h1 : isP G q n) (h2 : isP G q' n') (h : q ≠ q') : q + 2 ≤ q' ∨ q' + 2 ≤ q := by
  have a1 := kArr_ne h1.1 h2.2.1
  have a2 := kArr_ne h2.1 h1.2.1
  omega
theorem isT.sep {G : Gm} {t u n n' : Nat} (h1 : isT G t n) (h2 : isT G u n') (h : t ≠ u) : t + 4 ≤ u ∨ u + 4 ≤ t := by
  have a1 := kObj_ne h1.1 h2.2.1.1 (by decide)
  have a2 := kObj_ne h2.1 h1.2.1.1 (by decide)
  have a3 := kArr_ne h1.1 h2.2.1.2.1
  have a4 := kArr_ne h2.1 h1.2.1.2.1
  have a5 := kArr_ne h1.1 h2.2.2
  have a6 := kArr_ne h2.1 h1.2.2
  omega
theorem wl_trunc {cI : ClassId} {G : Gm} {S : Sg} {H : Heap} {E : Ev} {a n : Nat} {f : Nat → Nat} (hG : G a = some (kArr n)) (hf : ∀ i, i < n → f i = S.1 a i) (h : wP E G (arS S a f) H) : wP E G S H := by
  intro q e he
  by_cases hq : q = a
  · subst hq
    have h1 := h q _ (wl_arr hG)
    rw [wl_arr hG] at he
    cases he
    show H[q]? = some (vp_cell _ _)
    have h2 : H[q]? = some (vp_cell (eI E) (n, .inl (fun i => nI ((arS S q f).1 q i)))) := h1
    rw [h2, arS_1]
    congr 1
    rw [vp_cell_i, vp_cell_i]
    unfold arrV
    congr 1
    apply congrArg Array.ofFn
    funext j
    show Value.int (nI (f j.val)) = Value.int (nI (S.1 q j.val))
    rw [hf j.val j.isLt]
  · have h1 : wl (eI E) G (arS S a f) q = wl (eI E) G S q := by
      unfold wl
      rw [arS_1n hq, arS_2]
    exact h q e (h1.trans he)
theorem wl_trunc' {G : Gm} {S : Sg} {H : Heap} {E : Ev} {a n : Nat} {f : Nat → Nat} (hG : G a = some (kArr n)) (hf : ∀ i, i < n → f i = S.1 a i) (h : wP E G S H) : wP E G (arS S a f) H := by
  refine wl_trunc (cI := eI E) (S := arS S a f) (f := S.1 a) hG (fun i hi => by rw [arS_1, hf i hi]) ?_
  rw [arS_arS, arS_id]
  exact h
theorem r_trunc {E : Ev} {G : Gm} {own : String} {cc : ByteArray} {nL k : Nat} {J : Jt} {S : Sg} {pc : Nat} {L : List (Option Value)} {st : List Value} (X : Cx E G own cc nL k J) {a n : Nat} {f : Nat → Nat} (hG : G a = some (kArr n)) (hf : ∀ i, i < n → f i = S.1 a i) (kk : J (arS S a f) pc L st) : J S pc L st := by
  obtain ⟨p, e, R, s, m, args, below, meth, c, A, sz, n1, n2, Q, ⟨hx, hb, hml, hown, hts⟩, hK, hN, hR, hE, hA, rfl⟩ := X
  intro H locs ls hP hz hS hl
  exact kk H locs ls (wl_trunc' hG hf hP) hz hS hl
theorem mul_bd {a b : Nat} (ha : a < 10007) (hb : b < 10007) : a * b ≤ 100120036 := Nat.mul_le_mul (show a ≤ 10006 by omega) (show b ≤ 10006 by omega)
def em (x : Int32) : Nat := (x.toInt % 10007).toNat
theorem rem_p (x : Int32) : (x - x / nI 10007 * nI 10007).toInt = if 0 ≤ x.toInt then x.toInt % 10007 else -((-x.toInt) % 10007) := by
  have h7 : (nI 10007).toInt = 10007 := by decide
  have hd : (x / nI 10007).toInt = x.toInt.tdiv 10007 := by
    rw [Int32.toInt_div_of_ne_right _ _ (by decide), h7]
  have l1 := x.le_toInt
  have l2 := x.toInt_lt
  rw [Int32.toInt_sub, Int32.toInt_mul, hd, h7]
  by_cases h : 0 ≤ x.toInt
  · rw [if_pos h, Int.tdiv_eq_ediv_of_nonneg h]
    have e : (x.toInt / 10007 * 10007).bmod (2 ^ 32) = x.toInt / 10007 * 10007 := by
      unfold Int.bmod
      simp only
      split <;> omega
    rw [e]
    unfold Int.bmod
    simp only
    split <;> omega
  · rw [if_neg h]
    have e0 : x.toInt.tdiv 10007 = -((-x.toInt) / 10007) := by
      rw [← Int.tdiv_eq_ediv_of_nonneg (a := -x.toInt) (b := 10007) (by omega), Int.neg_tdiv]
      omega
    rw [e0]
    have e : (-(-x.toInt / 10007) * 10007).bmod (2 ^ 32) = -(-x.toInt / 10007) * 10007 := by
      unfold Int.bmod
      simp only
      split <;> omega
    rw [e]
    unfold Int.bmod
    simp only
    split <;> omega
theorem neg_iff_msb (x : Int32) : x < 0 ↔ x.toBitVec.msb = true := by
  rw [Int32.lt_iff_toInt_lt, BitVec.msb_eq_toInt, Int32.toInt_toBitVec]
  simp
theorem xor_neg (a b : Int32) : (a ^^^ b) < 0 ↔ ¬ (a < 0 ↔ b < 0) := by
  rw [neg_iff_msb, neg_iff_msb, neg_iff_msb, Int32.toBitVec_xor, BitVec.msb_xor]
  cases a.toBitVec.msb <;> cases b.toBitVec.msb <;> simp
theorem i32_ext {a b : Int32} (h : a.toInt = b.toInt) : a = b := Int32.toInt_inj.mp h
theorem em_lt (x : Int32) : em x < 10007 := by
  unfold em
  omega
theorem em_nI {n : Nat} (h : n < 2 ^ 31) : em (nI n) = n % 10007 := by
  unfold em
  rw [nI_toInt h]
  omega
theorem em_sub {a b : Nat} (ha : a < 10007) (hb : b < 10007) : em (nI a - nI b) = (a + (10007 - b)) % 10007 := by
  unfold em
  rw [pk_sub_toInt (by omega) (by omega)]
  omega
theorem nI_neg {n : Nat} (h : n < 2 ^ 31) : (-nI n).toInt = -(n : Int) := sb_negT h
theorem em_neg {n : Nat} (h : n < 10007) : em (-nI n) = (10007 - n) % 10007 := by
  unfold em
  rw [nI_neg (by omega)]
  omega
theorem rem_neg {x : Int32} (h : x - x / nI 10007 * nI 10007 < 0) : x - x / nI 10007 * nI 10007 + nI 10007 = nI (em x) := by
  have h1 := rem_p x
  rw [Int32.lt_iff_toInt_lt, Int32.toInt_zero] at h
  have h7 : (nI 10007).toInt = 10007 := by decide
  apply i32_ext
  rw [Int32.toInt_add, h7, nI_toInt (by have := em_lt x; omega)]
  unfold em
  split at h1
  · omega
  · rw [h1]
    unfold Int.bmod
    simp only
    split <;> omega
theorem rem_pos {x : Int32} (h : ¬ x - x / nI 10007 * nI 10007 < 0 ∨ x - x / nI 10007 * nI 10007 = 0) : x - x / nI 10007 * nI 10007 = nI (em x) := by
  have h1 := rem_p x
  apply i32_ext
  rw [nI_toInt (by have := em_lt x; omega)]
  rcases h with h | h
  · rw [Int32.lt_iff_toInt_lt, Int32.toInt_zero] at h
    unfold em
    split at h1 <;> omega
  · rw [h, Int32.toInt_zero] at h1
    rw [h, Int32.toInt_zero]
    unfold em
    split at h1 <;> omega
theorem p_nneg : ¬ nI 10007 < 0 := by decide
theorem rem_cases (x : Int32) : ((x ^^^ nI 10007) < 0 → x - x / nI 10007 * nI 10007 ≠ 0 → x - x / nI 10007 * nI 10007 + nI 10007 = nI (em x)) ∧ ((¬ (x ^^^ nI 10007) < 0 ∨ x - x / nI 10007 * nI 10007 = 0) → x - x / nI 10007 * nI 10007 = nI (em x)) := by
  have h1 := rem_p x
  refine ⟨fun h h0 => rem_neg ?_, fun h => rem_pos ?_⟩
  · rw [xor_neg] at h
    have hx : x < 0 := Decidable.byContradiction (fun z => h (iff_of_false z p_nneg))
    rw [Int32.lt_iff_toInt_lt, Int32.toInt_zero] at hx ⊢
    have h2 : (x - x / nI 10007 * nI 10007).toInt ≠ 0 := fun z => h0 (i32_ext (by rw [z, Int32.toInt_zero]))
    rw [if_neg (by omega)] at h1
    omega
  · rcases h with h | h
    · left
      rw [xor_neg] at h
      have hx : ¬ x < 0 := fun z => h (fun q => p_nneg (q.mp z))
      rw [Int32.lt_iff_toInt_lt, Int32.toInt_zero] at hx ⊢
      rw [if_pos (by omega)] at h1
      omega
    · exact Or.inr h
theorem tp_zero (n : Nat) : tp (fun _ => 0) n = 0 := tp_eq (by omega) (fun _ _ _ => rfl) (fun h => by omega)
theorem m1_tI : (-1 : Int32) = tI 0 := by decide
