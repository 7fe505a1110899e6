theorem dG_up {G : Gm} {A : Nat → Prop} {a : Nat} {x : Option Kd} (h : ∀ q, dG G q → A q) (ha : A a) : ∀ q, dG (va_up G a x) q → A q := by
  intro q hq
  by_cases e : q = a
  · rw [e]; exact ha
  · refine h q (fun z => hq ?_)
    rw [va_up_n e]
    exact z
theorem dG_s {G : Gm} {a : Nat} {x : Kd} : dG (va_up G a (some x)) a := by
  intro h
  rw [va_up_s] at h
  cases h
theorem ln_Term_9 : lkN wA clA "TelescopeDesk$Term" 9 iPoly 2 [.null, .int 0] := ⟨R_Poly, F_Poly, t_Poly, rfl, uw_Poly, tk_Poly, w26, w27, w3, fun j hj => by
  rcases (show j = 0 ∨ j = 1 by omega) with rfl | rfl <;> rfl⟩
theorem ln_Comb_20 : lkN wA clA "TelescopeDesk$Combiner" 20 iPoly 2 [.null, .int 0] := ⟨R_Poly, F_Poly, t_Poly, rfl, uw_Poly, tk_Poly, w72, w27, w3, fun j hj => by
  rcases (show j = 0 ∨ j = 1 by omega) with rfl | rfl <;> rfl⟩
theorem ln_Split_18 : lkN wA clA "TelescopeDesk$Splitter" 18 iPoly 2 [.null, .int 0] := ⟨R_Poly, F_Poly, t_Poly, rfl, uw_Poly, tk_Poly, w87, w27, w3, fun j hj => by
  rcases (show j = 0 ∨ j = 1 by omega) with rfl | rfl <;> rfl⟩
theorem ln_Comb_9 : lkN wA clA "TelescopeDesk$Combiner" 9 iTerm 3 [.null, .null, .int 0] := ⟨R_Term, F_Term, t_Term, rfl, uw_Term, tk_Term, w70, w21, w2, fun j hj => by
  rcases (show j = 0 ∨ j = 1 ∨ j = 2 by omega) with rfl | rfl | rfl <;> rfl⟩
theorem ln_Desk_9 : lkN wA clA "TelescopeDesk" 9 iTerm 3 [.null, .null, .int 0] := ⟨R_Term, F_Term, t_Term, rfl, uw_Term, tk_Term, w19, w21, w2, fun j hj => by
  rcases (show j = 0 ∨ j = 1 ∨ j = 2 by omega) with rfl | rfl | rfl <;> rfl⟩
theorem ln_Desk_25 : lkN wA clA "TelescopeDesk" 25 iComb 2 [.null, .null] := ⟨R_Comb, F_Comb, t_Comb, rfl, uw_Comb, tk_Comb, w64, w65, w4, fun j hj => by
  rcases (show j = 0 ∨ j = 1 by omega) with rfl | rfl <;> rfl⟩
theorem ln_Desk_32 : lkN wA clA "TelescopeDesk" 32 iSplit 5 [.null, .null, .null, .null, .null] := ⟨R_Split, F_Split, t_Split, rfl, uw_Split, tk_Split, w81, w82, w5, fun j hj => by
  rcases (show j = 0 ∨ j = 1 ∨ j = 2 ∨ j = 3 ∨ j = 4 by omega) with rfl | rfl | rfl | rfl | rfl <;> rfl⟩
theorem ln_Law_7 : lkN wA clA "TelescopeDeskLaw" 7 iDesk 5 [.null, .null, .null, .null, .null] := ⟨R_Desk, F_Desk, t_Desk, rfl, uw_Desk, tk_Desk, w11, w12, w1, fun j hj => by
  rcases (show j = 0 ∨ j = 1 ∨ j = 2 ∨ j = 3 ∨ j = 4 by omega) with rfl | rfl | rfl | rfl | rfl <;> rfl⟩
theorem ln_Law_10 : lkN wA clA "TelescopeDeskLaw" 10 iModel 10 [.null, .null, .null, .null, .null, .int 0, .null, .null, .null, .null] := ⟨R_Model, F_Model, t_Model, rfl, uw_Model, tk_Model, w405, w406, w6, fun j hj => by
  rcases (show j = 0 ∨ j = 1 ∨ j = 2 ∨ j = 3 ∨ j = 4 ∨ j = 5 ∨ j = 6 ∨ j = 7 ∨ j = 8 ∨ j = 9 by omega) with rfl | rfl | rfl | rfl | rfl | rfl | rfl | rfl | rfl | rfl <;> rfl⟩
def kP0 : Kd := kObj iPoly (fun v => [.null, .int v])
def kP1 (p : Nat) : Kd := kObj iPoly (fun v => [.ref (p + 1), .int v])
def pG (p n : Nat) (G : Gm) : Gm := va_up (va_up (va_up G p (some kP0)) (p + 1) (some (kArr n))) p (some (kP1 p))
def pS (p : Nat) (S : Sg) : Sg := fdS (arS (fdS S p 0) (p + 1) (fun _ => 0)) p (-1)
def kT0 : Kd := kObj iTerm (fun v => [.null, .null, .int v])
def kT1 (t : Nat) : Kd := kObj iTerm (fun v => [.ref (t + 1), .null, .int v])
def kT2 (t : Nat) : Kd := kObj iTerm (fun v => [.ref (t + 1), .ref (t + 3), .int v])
def tG (t n : Nat) (G : Gm) : Gm := va_up (va_up (va_up (pG (t + 1) n (va_up G t (some kT0))) t (some (kT1 t))) (t + 3) (some (kArr 9))) t (some (kT2 t))
def tS (t : Nat) (S : Sg) : Sg := fdS (arS (pS (t + 1) (fdS S t 0)) (t + 3) (fun _ => 0)) t (nI 1)
def kC0 : Kd := kObj iComb (fun _ => [.null, .null])
def kC1 (c : Nat) : Kd := kObj iComb (fun _ => [.ref (c + 1), .null])
def kC2 (c : Nat) : Kd := kObj iComb (fun _ => [.ref (c + 1), .ref (c + 5)])
def cG (c : Nat) (G : Gm) : Gm := va_up (pG (c + 5) 64 (va_up (tG (c + 1) 64 (va_up G c (some kC0))) c (some (kC1 c)))) c (some (kC2 c))
def cS (c : Nat) (S : Sg) : Sg := pS (c + 5) (tS (c + 1) (fdS S c 0))
def kS0 : Kd := kObj iSplit (fun _ => [.null, .null, .null, .null, .null])
def kS1 (s : Nat) : Kd := kObj iSplit (fun _ => [.ref (s + 1), .null, .null, .null, .null])
def kS2 (s : Nat) : Kd := kObj iSplit (fun _ => [.ref (s + 1), .ref (s + 2), .null, .null, .null])
def kS3 (s : Nat) : Kd := kObj iSplit (fun _ => [.ref (s + 1), .ref (s + 2), .ref (s + 3), .null, .null])
def kS4 (s : Nat) : Kd := kObj iSplit (fun _ => [.ref (s + 1), .ref (s + 2), .ref (s + 3), .ref (s + 5), .null])
def kS5 (s : Nat) : Kd := kObj iSplit (fun _ => [.ref (s + 1), .ref (s + 2), .ref (s + 3), .ref (s + 5), .ref (s + 7)])
def sG2 (s : Nat) (G : Gm) : Gm := va_up (va_up (va_up (va_up (va_up G s (some kS0)) (s + 1) (some (kArr 3))) s (some (kS1 s))) (s + 2) (some (kArr 24))) s (some (kS2 s))
def sG3 (s : Nat) (G : Gm) : Gm := va_up (pG (s + 3) 64 (sG2 s G)) s (some (kS3 s))
def sG4 (s : Nat) (G : Gm) : Gm := va_up (pG (s + 5) 64 (sG3 s G)) s (some (kS4 s))
def sG (s : Nat) (G : Gm) : Gm := va_up (pG (s + 7) 64 (sG4 s G)) s (some (kS5 s))
def sS2 (s : Nat) (S : Sg) : Sg := arS (arS (fdS S s 0) (s + 1) (fun _ => 0)) (s + 2) (fun _ => 0)
def sS (s : Nat) (S : Sg) : Sg := pS (s + 7) (pS (s + 5) (pS (s + 3) (sS2 s S)))
theorem pG_n {p n q : Nat} {G : Gm} (h : q < p ∨ p + 2 ≤ q) : pG p n G q = G q := by
  unfold pG
  rw [va_up_n (by omega), va_up_n (by omega), va_up_n (by omega)]
theorem pG_is {p n : Nat} {G : Gm} (h2 : 2 ≤ n) (h : n ≤ 64) : isP (pG p n G) p n := by
  refine ⟨?_, ?_, h2, h⟩
  · unfold pG
    rw [va_up_s]
    rfl
  · unfold pG
    rw [va_up_n (by omega), va_up_s]
theorem pG_A {p n : Nat} {G : Gm} {A : Nat → Prop} (h : ∀ q, dG G q → A q) (h1 : A p) (h2 : A (p + 1)) : ∀ q, dG (pG p n G) q → A q := dG_up (dG_up (dG_up h h1) h2) h1
theorem tG_n {t n q : Nat} {G : Gm} (h : q < t ∨ t + 4 ≤ q) : tG t n G q = G q := by
  unfold tG
  rw [va_up_n (by omega), va_up_n (by omega), va_up_n (by omega), pG_n (by omega), va_up_n (by omega)]
theorem isP.cg {G G' : Gm} {q n : Nat} (h : isP G q n) (e : ∀ a, q ≤ a → a < q + 2 → G' a = G a) : isP G' q n := ⟨by rw [e q (by omega) (by omega)]; exact h.1, by rw [e (q + 1) (by omega) (by omega)]; exact h.2.1, h.2.2⟩
theorem isT.cg {G G' : Gm} {t n : Nat} (h : isT G t n) (e : ∀ a, t ≤ a → a < t + 4 → G' a = G a) : isT G' t n := ⟨by rw [e t (by omega) (by omega)]; exact h.1, h.2.1.cg (fun a h1 h2 => e a (by omega) (by omega)), by rw [e (t + 3) (by omega) (by omega)]; exact h.2.2⟩
theorem tG_is {t n : Nat} {G : Gm} (h2 : 2 ≤ n) (h : n ≤ 64) : isT (tG t n G) t n := by
  refine ⟨?_, ?_, ?_⟩
  · unfold tG
    rw [va_up_s]
    rfl
  · refine isP.cg (pG_is (p := t + 1) (G := va_up G t (some kT0)) h2 h) (fun a h1 h2 => ?_)
    unfold tG
    rw [va_up_n (by omega), va_up_n (by omega), va_up_n (by omega)]
  · unfold tG
    rw [va_up_n (by omega), va_up_s]
theorem tG_A {t n : Nat} {G : Gm} {A : Nat → Prop} (h : ∀ q, dG G q → A q) (h1 : ∀ q, t ≤ q → q < t + 4 → A q) : ∀ q, dG (tG t n G) q → A q := dG_up (dG_up (dG_up (pG_A (dG_up h (h1 t (by omega) (by omega))) (h1 _ (by omega) (by omega)) (h1 _ (by omega) (by omega))) (h1 _ (by omega) (by omega))) (h1 _ (by omega) (by omega))) (h1 _ (by omega) (by omega))
theorem isC.cg {G G' : Gm} {c : Nat} (h : isC G c) (e : ∀ a, c ≤ a → a < c + 7 → G' a = G a) : isC G' c := ⟨by rw [e c (by omega) (by omega)]; exact h.1, h.2.1.cg (fun a h1 h2 => e a (by omega) (by omega)), h.2.2.cg (fun a h1 h2 => e a (by omega) (by omega))⟩
theorem isS.cg {G G' : Gm} {s : Nat} (h : isS G s) (e : ∀ a, s ≤ a → a < s + 9 → G' a = G a) : isS G' s := ⟨by rw [e s (by omega) (by omega)]; exact h.1, by rw [e (s + 1) (by omega) (by omega)]; exact h.2.1, by rw [e (s + 2) (by omega) (by omega)]; exact h.2.2.1, h.2.2.2.1.cg (fun a h1 h2 => e a (by omega) (by omega)), h.2.2.2.2.1.cg (fun a h1 h2 => e a (by omega) (by omega)), h.2.2.2.2.2.cg (fun a h1 h2 => e a (by omega) (by omega))⟩
theorem cG_n {c q : Nat} {G : Gm} (h : q < c ∨ c + 7 ≤ q) : cG c G q = G q := by
  unfold cG
  rw [va_up_n (by omega), pG_n (by omega), va_up_n (by omega), tG_n (by omega), va_up_n (by omega)]
theorem cG_is {c : Nat} {G : Gm} : isC (cG c G) c := by
  refine ⟨?_, ?_, ?_⟩
  · unfold cG
    rw [va_up_s]
    rfl
  · refine isT.cg (tG_is (t := c + 1) (n := 64) (G := va_up G c (some kC0)) (by omega) (by omega)) (fun a h1 h2 => ?_)
    unfold cG
    rw [va_up_n (by omega), pG_n (by omega), va_up_n (by omega)]
  · refine isP.cg (pG_is (p := c + 5) (n := 64) (G := va_up (tG (c + 1) 64 (va_up G c (some kC0))) c (some (kC1 c))) (by omega) (by omega)) (fun a h1 h2 => ?_)
    unfold cG
    rw [va_up_n (by omega)]
theorem cG_A {c : Nat} {G : Gm} {A : Nat → Prop} (h : ∀ q, dG G q → A q) (h1 : ∀ q, c ≤ q → q < c + 7 → A q) : ∀ q, dG (cG c G) q → A q := dG_up (pG_A (dG_up (tG_A (dG_up h (h1 _ (by omega) (by omega))) (fun q h2 h3 => h1 q (by omega) (by omega))) (h1 _ (by omega) (by omega))) (h1 _ (by omega) (by omega)) (h1 _ (by omega) (by omega))) (h1 _ (by omega) (by omega))
theorem sG2_n {s q : Nat} {G : Gm} (h : q < s ∨ s + 3 ≤ q) : sG2 s G q = G q := by
  unfold sG2
  rw [va_up_n (by omega), va_up_n (by omega), va_up_n (by omega), va_up_n (by omega), va_up_n (by omega)]
theorem sG_n {s q : Nat} {G : Gm} (h : q < s ∨ s + 9 ≤ q) : sG s G q = G q := by
  unfold sG sG4 sG3
  rw [va_up_n (by omega), pG_n (by omega), va_up_n (by omega), pG_n (by omega), va_up_n (by omega), pG_n (by omega), sG2_n (by omega)]
theorem sG_is {s : Nat} {G : Gm} : isS (sG s G) s := by
  refine ⟨?_, ?_, ?_, ?_, ?_, ?_⟩
  · unfold sG
    rw [va_up_s]
    rfl
  · unfold sG sG4 sG3 sG2
    rw [va_up_n (by omega), pG_n (by omega), va_up_n (by omega), pG_n (by omega), va_up_n (by omega), pG_n (by omega), va_up_n (by omega), va_up_n (by omega), va_up_n (by omega), va_up_s]
  · unfold sG sG4 sG3 sG2
    rw [va_up_n (by omega), pG_n (by omega), va_up_n (by omega), pG_n (by omega), va_up_n (by omega), pG_n (by omega), va_up_n (by omega), va_up_s]
  · refine isP.cg (pG_is (p := s + 3) (n := 64) (G := sG2 s G) (by omega) (by omega)) (fun a h1 h2 => ?_)
    unfold sG sG4 sG3
    rw [va_up_n (by omega), pG_n (by omega), va_up_n (by omega), pG_n (by omega), va_up_n (by omega)]
  · refine isP.cg (pG_is (p := s + 5) (n := 64) (G := sG3 s G) (by omega) (by omega)) (fun a h1 h2 => ?_)
    unfold sG sG4
    rw [va_up_n (by omega), pG_n (by omega), va_up_n (by omega)]
  · refine isP.cg (pG_is (p := s + 7) (n := 64) (G := sG4 s G) (by omega) (by omega)) (fun a h1 h2 => ?_)
    unfold sG
    rw [va_up_n (by omega)]
theorem sG_A {s : Nat} {G : Gm} {A : Nat → Prop} (h : ∀ q, dG G q → A q) (h1 : ∀ q, s ≤ q → q < s + 9 → A q) : ∀ q, dG (sG s G) q → A q := dG_up (pG_A (dG_up (pG_A (dG_up (pG_A (dG_up (dG_up (dG_up (dG_up (dG_up h (h1 _ (by omega) (by omega))) (h1 _ (by omega) (by omega))) (h1 _ (by omega) (by omega))) (h1 _ (by omega) (by omega))) (h1 _ (by omega) (by omega))) (h1 _ (by omega) (by omega)) (h1 _ (by omega) (by omega))) (h1 _ (by omega) (by omega))) (h1 _ (by omega) (by omega)) (h1 _ (by omega) (by omega))) (h1 _ (by omega) (by omega))) (h1 _ (by omega) (by omega)) (h1 _ (by omega) (by omega))) (h1 _ (by omega) (by omega))
theorem pS_o (p : Nat) (S : Sg) : Out S (pS p S) p 2 := by
  unfold pS
  exact ((Out.fd (by omega) (by omega)).trans (Out.ar (by omega) (by omega))).trans (Out.fd (by omega) (by omega))
theorem pS_is (p n : Nat) (S : Sg) : pIs (pS p S) p n (fun _ => 0) := by
  refine ⟨?_, ?_⟩
  · unfold pS
    rw [fdS_1, arS_1]
  · unfold pS
    rw [fdS_2, tp_eq (n := n) (t := 0) (by omega) (fun _ _ _ => rfl) (fun h => absurd h (by omega))]
    rfl
theorem tS_o (t : Nat) (S : Sg) : Out S (tS t S) t 4 := by
  intro a ha
  have h1 := pS_o (t + 1) (fdS S t 0) a (by omega)
  unfold tS
  rw [fdS_1, fdS_2n (by omega), arS_1n (by omega), arS_2, h1.1, h1.2, fdS_1, fdS_2n (by omega)]
  exact ⟨rfl, rfl⟩
theorem tS_is (t n : Nat) (S : Sg) : tIs (tS t S) t n (fun _ => 0) (fun _ => 0) 1 := by
  have h1 := pS_is (t + 1) n (fdS S t 0)
  refine ⟨⟨?_, ?_⟩, ?_, ?_⟩
  · unfold tS
    rw [fdS_1, arS_1n (by omega)]
    exact h1.1
  · unfold tS
    rw [fdS_2n (by omega), arS_2]
    exact h1.2
  · unfold tS
    rw [fdS_1, arS_1]
  · unfold tS
    rw [fdS_2]
theorem cS_o (c : Nat) (S : Sg) : Out S (cS c S) c 7 := by
  intro a ha
  have h1 := pS_o (c + 5) (tS (c + 1) (fdS S c 0)) a (by omega)
  have h2 := tS_o (c + 1) (fdS S c 0) a (by omega)
  unfold cS
  rw [h1.1, h1.2, h2.1, h2.2, fdS_1, fdS_2n (by omega)]
  exact ⟨rfl, rfl⟩
theorem sS_o (s : Nat) (S : Sg) : Out S (sS s S) s 9 := by
  intro a ha
  have h1 := pS_o (s + 7) (pS (s + 5) (pS (s + 3) (sS2 s S))) a (by omega)
  have h2 := pS_o (s + 5) (pS (s + 3) (sS2 s S)) a (by omega)
  have h3 := pS_o (s + 3) (sS2 s S) a (by omega)
  unfold sS
  rw [h1.1, h1.2, h2.1, h2.2, h3.1, h3.2]
  unfold sS2
  rw [arS_1n (by omega), arS_1n (by omega), arS_2, arS_2, fdS_1, fdS_2n (by omega)]
  exact ⟨rfl, rfl⟩
section CM
variable {l : Launch} {D : va_G} {cI cT : ClassId} {G : Gm} {S : Sg}
set_option maxHeartbeats 4000000 in
set_option maxRecDepth 100000 in
theorem n_poly {p n : Nat} (hn : n ≤ 1000) : CN (mkE l D cI cT) (va_up G p (some kP0)) y_Poly_init b_Poly_init 2 1 1 (0 + n) [.ref p, .int (nI n)] (fdS S p 0) (p + 1) (pG p n G) (pS p S) := by
  refine mk_n (by decide) rfl (eok l D cI cT) (by simp [Value.category]) (Nat.le_of_ble_eq_true rfl) (fun J C hR => ?_)
  show J (va_up G p (some kP0)) (p + 1) 0 0 (fdS S p 0) 0 [some (.ref p), some (.int (nI n))] []
  have Ap : dG (va_up G p (some kP0)) p ∨ p + 1 ≤ p := Or.inl dG_s
  have A0 : ∀ q, dG (va_up G p (some kP0)) q → (dG (va_up G p (some kP0)) q ∨ p + 1 ≤ q) := fun q h => Or.inl h
  have A1 := dG_up (a := p + 1) (x := some (kArr n)) A0 (Or.inr (by omega))
  have A2 := dG_up (a := p) (x := some (kP1 p)) A1 Ap
  have X := C.cx (sz := p + 1) (n1 := 0) (n2 := 0) A0 (by omega) (by omega)
  refine r_aload_n X d_Poly_init_0 (by rfl) ?_
  refine r_objInit X w31 w17 w18 (by decide) rfl d_Poly_init_1 ?_
  refine r_aload_n X d_Poly_init_4 (by rfl) ?_
  refine r_iload_n X d_Poly_init_5 (by rfl) ?_
  refine cn_newa C (n := n) w44 (by omega) (by omega) (by omega) d_Poly_init_6 ?_
  have g1 : (va_up (va_up G p (some kP0)) (p + 1) (some (kArr n))) p = some (kObj iPoly (fun v => [.null, .int v])) := by rw [va_up_n (by omega), va_up_s]; rfl
  refine cn_putF C (F' := fun v => [.ref (p + 1), .int v]) lg_Poly_9 d_Poly_init_8 g1 Ap (fun v => rfl) (fun v => Nat.le_of_ble_eq_true rfl) ?_
  have g2 : (va_up (va_up (va_up G p (some kP0)) (p + 1) (some (kArr n))) p (some (kP1 p))) p = some (kObj iPoly (fun v => [.ref (p + 1), .int v])) := by rw [va_up_s]; rfl
  have X := C.cx (sz := p + 1 + 1) (n1 := 0 + 1) (n2 := 0 + n) A2 (by omega) (by omega)
  refine r_aload_n X d_Poly_init_11 (by rfl) ?_
  refine r_iconst X (x := (-1)) d_Poly_init_12 (by decide) ?_
  refine r_put X lp_Poly_15 d_Poly_init_13 g2 (by rfl) (Nat.le_of_ble_eq_true rfl) ?_
  exact hR _ _ d_Poly_init_16
set_option maxHeartbeats 4000000 in
set_option maxRecDepth 100000 in
theorem n_term {t n : Nat} (hn : n ≤ 1000) : CN (mkE l D cI cT) (va_up G t (some kT0)) y_Term_init b_Term_init 2 2 3 (2 + (0 + n) + 9) [.ref t, .int (nI n)] (fdS S t 0) (t + 1) (tG t n G) (tS t S) := by
  refine mk_n (by decide) rfl (eok l D cI cT) (by simp [Value.category]) (Nat.le_of_ble_eq_true rfl) (fun J C hR => ?_)
  show J (va_up G t (some kT0)) (t + 1) 0 0 (fdS S t 0) 0 [some (.ref t), some (.int (nI n))] []
  have At : dG (va_up G t (some kT0)) t ∨ t + 1 ≤ t := Or.inl dG_s
  have Az : ∀ q, t + 1 ≤ q → (dG (va_up G t (some kT0)) q ∨ t + 1 ≤ q) := fun q h => Or.inr h
  have A0 : ∀ q, dG (va_up G t (some kT0)) q → (dG (va_up G t (some kT0)) q ∨ t + 1 ≤ q) := fun q h => Or.inl h
  have A1 := dG_up (a := t + 1) (x := some kP0) A0 (Az _ (by omega))
  have A2 := pG_A (p := t + 1) (n := n) A0 (Az _ (by omega)) (Az _ (by omega))
  have A3 := dG_up (a := t) (x := some (kT1 t)) A2 At
  have A4 := dG_up (a := t + 3) (x := some (kArr 9)) A3 (Az _ (by omega))
  have A5 := dG_up (a := t) (x := some (kT2 t)) A4 At
  have X := C.cx (sz := t + 1) (n1 := 0) (n2 := 0) A0 (by omega) (by omega)
  refine r_aload_n X d_Term_init_0 (by rfl) ?_
  refine r_objInit X w25 w17 w18 (by decide) rfl d_Term_init_1 ?_
  refine r_aload_n X d_Term_init_4 (by rfl) ?_
  refine cn_new C (F := fun v => [.null, .int v]) (x0 := 0) ln_Term_9 (by omega) (by omega) d_Term_init_5 ?_
  have X := C.cx (sz := t + 1 + 1) (n1 := 0 + 1) (n2 := 0 + 2) A1 (by omega) (by omega)
  refine r_dup X d_Term_init_8 (by rfl) ?_
  refine r_iload_n X d_Term_init_9 (by rfl) ?_
  refine cn_call C (As := [.int (nI n)]) (rest := [.ref (t + 1), .ref t]) (b := t + 1) li_Term_11 (n_poly (p := t + 1) (n := n) (G := va_up G t (some kT0)) (S := fdS S t 0) hn) A1 (fun q h => Az q (by omega)) (by decide) rfl (by omega) (by omega) (Nat.le_of_ble_eq_true rfl) d_Term_init_10 rfl ?_
  have g2 : (pG (t + 1) n (va_up G t (some kT0))) t = some (kObj iTerm (fun v => [.null, .null, .int v])) := by rw [pG_n (by omega), va_up_s]; rfl
  refine cn_putF C (F' := fun v => [.ref (t + 1), .null, .int v]) lg_Term_14 d_Term_init_13 g2 At (fun v => rfl) (fun v => Nat.le_of_ble_eq_true rfl) ?_
  have X := C.cx (sz := t + 1 + 1 + 1) (n1 := 0 + 1 + 1) (n2 := 0 + 2 + (0 + n)) A3 (by omega) (by omega)
  refine r_aload_n X d_Term_init_16 (by rfl) ?_
  refine r_bipush X (x := (nI 9)) d_Term_init_17 (by decide) ?_
  refine cn_newa C (n := 9) w44 (by omega) (by omega) (by omega) d_Term_init_19 ?_
  have g4 : (va_up (va_up (pG (t + 1) n (va_up G t (some kT0))) t (some (kT1 t))) (t + 3) (some (kArr 9))) t = some (kObj iTerm (fun v => [.ref (t + 1), .null, .int v])) := by rw [va_up_n (by omega), va_up_s]; rfl
  refine cn_putF C (F' := fun v => [.ref (t + 1), .ref (t + 3), .int v]) lg_Term_20 d_Term_init_21 g4 At (fun v => rfl) (fun v => Nat.le_of_ble_eq_true rfl) ?_
  have g5 : (va_up (va_up (va_up (pG (t + 1) n (va_up G t (some kT0))) t (some (kT1 t))) (t + 3) (some (kArr 9))) t (some (kT2 t))) t = some (kObj iTerm (fun v => [.ref (t + 1), .ref (t + 3), .int v])) := by rw [va_up_s]; rfl
  have X := C.cx (sz := t + 1 + 1 + 1 + 1) (n1 := 0 + 1 + 1 + 1) (n2 := 0 + 2 + (0 + n) + 9) A5 (by omega) (by omega)
  refine r_aload_n X d_Term_init_24 (by rfl) ?_
  refine r_iconst X (x := (nI 1)) d_Term_init_25 (by decide) ?_
  refine r_put X lp_Term_24 d_Term_init_26 g5 (by rfl) (Nat.le_of_ble_eq_true rfl) ?_
  exact hR _ _ d_Term_init_29
set_option maxHeartbeats 4000000 in
set_option maxRecDepth 100000 in
theorem n_comb {c : Nat} : CN (mkE l D cI cT) (va_up G c (some kC0)) y_Comb_init b_Comb_init 1 3 6 144 [.ref c] (fdS S c 0) (c + 1) (cG c G) (cS c S) := by
  refine mk_n (by decide) rfl (eok l D cI cT) (by simp [Value.category]) (Nat.le_of_ble_eq_true rfl) (fun J C hR => ?_)
  show J (va_up G c (some kC0)) (c + 1) 0 0 (fdS S c 0) 0 [some (.ref c)] []
  have At : dG (va_up G c (some kC0)) c ∨ c + 1 ≤ c := Or.inl dG_s
  have Az : ∀ q, c + 1 ≤ q → (dG (va_up G c (some kC0)) q ∨ c + 1 ≤ q) := fun q h => Or.inr h
  have A0 : ∀ q, dG (va_up G c (some kC0)) q → (dG (va_up G c (some kC0)) q ∨ c + 1 ≤ q) := fun q h => Or.inl h
  have A1 := dG_up (a := c + 1) (x := some kT0) A0 (Az _ (by omega))
  have A2 := tG_A (t := c + 1) (n := 64) A0 (fun q h1 h2 => Az _ (by omega))
  have A3 := dG_up (a := c) (x := some (kC1 c)) A2 At
  have A4 := dG_up (a := c + 5) (x := some kP0) A3 (Az _ (by omega))
  have A5 := pG_A (p := c + 5) (n := 64) A3 (Az _ (by omega)) (Az _ (by omega))
  have A6 := dG_up (a := c) (x := some (kC2 c)) A5 At
  have X := C.cx (sz := c + 1) (n1 := 0) (n2 := 0) A0 (by omega) (by omega)
  refine r_aload_n X d_Comb_init_0 (by rfl) ?_
  refine r_objInit X w69 w17 w18 (by decide) rfl d_Comb_init_1 ?_
  refine r_aload_n X d_Comb_init_4 (by rfl) ?_
  refine cn_new C (F := fun v => [.null, .null, .int v]) (x0 := 0) ln_Comb_9 (by omega) (by omega) d_Comb_init_5 ?_
  have X := C.cx (sz := c + 1 + 1) (n1 := 0 + 1) (n2 := 0 + 3) A1 (by omega) (by omega)
  refine r_dup X d_Comb_init_8 (by rfl) ?_
  refine r_bipush X (x := (nI 64)) d_Comb_init_9 (by decide) ?_
  refine cn_call C (As := [.int (nI 64)]) (rest := [.ref (c + 1), .ref c]) (b := c + 1) li_Comb_11 (n_term (t := c + 1) (n := 64) (G := va_up G c (some kC0)) (S := fdS S c 0) (by omega)) A1 (fun q h => Az q (by omega)) (by decide) rfl (by omega) (by omega) (Nat.le_of_ble_eq_true rfl) d_Comb_init_11 rfl ?_
  have g2 : (tG (c + 1) 64 (va_up G c (some kC0))) c = some (kObj iComb (fun _ => [.null, .null])) := by rw [tG_n (by omega), va_up_s]; rfl
  refine cn_putF C (F' := fun _ => [.ref (c + 1), .null]) lg_Comb_14 d_Comb_init_14 g2 At (fun v => rfl) (fun v => Nat.le_of_ble_eq_true rfl) ?_
  have X := C.cx (sz := c + 5) (n1 := 4) (n2 := 78) A3 (by omega) (by omega)
  show J (va_up (tG (c + 1) 64 (va_up G c (some kC0))) c (some (kC1 c))) (c + 5) 4 78 (tS (c + 1) (fdS S c 0)) 17 _ _
  refine r_aload_n X d_Comb_init_17 (by rfl) ?_
  refine cn_new C (F := fun v => [.null, .int v]) (x0 := 0) ln_Comb_20 (by omega) (by omega) d_Comb_init_18 ?_
  have X := C.cx (sz := c + 5 + 1) (n1 := 4 + 1) (n2 := 78 + 2) A4 (by omega) (by omega)
  refine r_dup X d_Comb_init_21 (by rfl) ?_
  refine r_bipush X (x := (nI 64)) d_Comb_init_22 (by decide) ?_
  refine cn_call C (As := [.int (nI 64)]) (rest := [.ref (c + 5), .ref c]) (b := c + 5) li_Comb_22 (n_poly (p := c + 5) (n := 64) (G := va_up (tG (c + 1) 64 (va_up G c (some kC0))) c (some (kC1 c))) (S := tS (c + 1) (fdS S c 0)) (by omega)) A4 (fun q h => Az q (by omega)) (by decide) rfl (by omega) (by omega) (Nat.le_of_ble_eq_true rfl) d_Comb_init_24 rfl ?_
  have g5 : (pG (c + 5) 64 (va_up (tG (c + 1) 64 (va_up G c (some kC0))) c (some (kC1 c)))) c = some (kObj iComb (fun _ => [.ref (c + 1), .null])) := by rw [pG_n (by omega), va_up_s]; rfl
  refine cn_putF C (F' := fun _ => [.ref (c + 1), .ref (c + 5)]) lg_Comb_23 d_Comb_init_27 g5 At (fun v => rfl) (fun v => Nat.le_of_ble_eq_true rfl) ?_
  exact hR _ _ d_Comb_init_30
set_option maxHeartbeats 4000000 in
set_option maxRecDepth 100000 in
theorem n_split {s : Nat} : CN (mkE l D cI cT) (va_up G s (some kS0)) y_Split_init b_Split_init 1 2 8 225 [.ref s] (fdS S s 0) (s + 1) (sG s G) (sS s S) := by
  refine mk_n (by decide) rfl (eok l D cI cT) (by simp [Value.category]) (Nat.le_of_ble_eq_true rfl) (fun J C hR => ?_)
  show J (va_up G s (some kS0)) (s + 1) 0 0 (fdS S s 0) 0 [some (.ref s)] []
  have At : dG (va_up G s (some kS0)) s ∨ s + 1 ≤ s := Or.inl dG_s
  have Az : ∀ q, s + 1 ≤ q → (dG (va_up G s (some kS0)) q ∨ s + 1 ≤ q) := fun q h => Or.inr h
  have A0 : ∀ q, dG (va_up G s (some kS0)) q → (dG (va_up G s (some kS0)) q ∨ s + 1 ≤ q) := fun q h => Or.inl h
  have A1 := dG_up (a := s) (x := some (kS1 s)) (dG_up (a := s + 1) (x := some (kArr 3)) A0 (Az _ (by omega))) At
  have A2 : ∀ q, dG (sG2 s G) q → (dG (va_up G s (some kS0)) q ∨ s + 1 ≤ q) := dG_up (a := s) (x := some (kS2 s)) (dG_up (a := s + 2) (x := some (kArr 24)) A1 (Az _ (by omega))) At
  have A2' := dG_up (a := s + 3) (x := some kP0) A2 (Az _ (by omega))
  have A3 : ∀ q, dG (sG3 s G) q → (dG (va_up G s (some kS0)) q ∨ s + 1 ≤ q) := dG_up (a := s) (x := some (kS3 s)) (pG_A (p := s + 3) (n := 64) A2 (Az _ (by omega)) (Az _ (by omega))) At
  have A3' := dG_up (a := s + 5) (x := some kP0) A3 (Az _ (by omega))
  have A4 : ∀ q, dG (sG4 s G) q → (dG (va_up G s (some kS0)) q ∨ s + 1 ≤ q) := dG_up (a := s) (x := some (kS4 s)) (pG_A (p := s + 5) (n := 64) A3 (Az _ (by omega)) (Az _ (by omega))) At
  have A4' := dG_up (a := s + 7) (x := some kP0) A4 (Az _ (by omega))
  have X := C.cx (sz := s + 1) (n1 := 0) (n2 := 0) A0 (by omega) (by omega)
  refine r_aload_n X d_Split_init_0 (by rfl) ?_
  refine r_objInit X w86 w17 w18 (by decide) rfl d_Split_init_1 ?_
  refine r_aload_n X d_Split_init_4 (by rfl) ?_
  refine r_iconst X (x := (nI 3)) d_Split_init_5 (by decide) ?_
  refine cn_newa C (n := 3) w44 (by omega) (by omega) (by omega) d_Split_init_6 ?_
  have g1 : (va_up (va_up G s (some kS0)) (s + 1) (some (kArr 3))) s = some (kObj iSplit (fun _ => [.null, .null, .null, .null, .null])) := by rw [va_up_n (by omega), va_up_s]; rfl
  refine cn_putF C (F' := fun _ => [.ref (s + 1), .null, .null, .null, .null]) lg_Split_9 d_Split_init_8 g1 At (fun v => rfl) (fun v => Nat.le_of_ble_eq_true rfl) ?_
  have X := C.cx (sz := s + 1 + 1) (n1 := 0 + 1) (n2 := 0 + 3) A1 (by omega) (by omega)
  refine r_aload_n X d_Split_init_11 (by rfl) ?_
  refine r_bipush X (x := (nI 24)) d_Split_init_12 (by decide) ?_
  refine cn_newa C (n := 24) w44 (by omega) (by omega) (by omega) d_Split_init_14 ?_
  have g2 : (va_up (va_up (va_up (va_up G s (some kS0)) (s + 1) (some (kArr 3))) s (some (kS1 s))) (s + 2) (some (kArr 24))) s = some (kObj iSplit (fun _ => [.ref (s + 1), .null, .null, .null, .null])) := by rw [va_up_n (by omega), va_up_s]; rfl
  refine cn_putF C (F' := fun _ => [.ref (s + 1), .ref (s + 2), .null, .null, .null]) lg_Split_15 d_Split_init_16 g2 At (fun v => rfl) (fun v => Nat.le_of_ble_eq_true rfl) ?_
  show J (sG2 s G) (s + 3) 2 27 (sS2 s S) 19 _ _
  have X := C.cx (sz := s + 3) (n1 := 2) (n2 := 27) A2 (by omega) (by omega)
  refine r_aload_n X d_Split_init_19 (by rfl) ?_
  refine cn_new C (F := fun v => [.null, .int v]) (x0 := 0) ln_Split_18 (by omega) (by omega) d_Split_init_20 ?_
  have X := C.cx (sz := s + 3 + 1) (n1 := 2 + 1) (n2 := 27 + 2) A2' (by omega) (by omega)
  refine r_dup X d_Split_init_23 (by rfl) ?_
  refine r_bipush X (x := (nI 64)) d_Split_init_24 (by decide) ?_
  refine cn_call C (As := [.int (nI 64)]) (rest := [.ref (s + 3), .ref s]) (b := s + 3) li_Split_20 (n_poly (p := s + 3) (n := 64) (G := sG2 s G) (S := sS2 s S) (by omega)) A2' (fun q h => Az q (by omega)) (by decide) rfl (by omega) (by omega) (Nat.le_of_ble_eq_true rfl) d_Split_init_26 rfl ?_
  have g3 : (pG (s + 3) 64 (sG2 s G)) s = some (kObj iSplit (fun _ => [.ref (s + 1), .ref (s + 2), .null, .null, .null])) := by
    rw [pG_n (by omega)]
    unfold sG2
    rw [va_up_s]
    rfl
  refine cn_putF C (F' := fun _ => [.ref (s + 1), .ref (s + 2), .ref (s + 3), .null, .null]) lg_Split_23 d_Split_init_29 g3 At (fun v => rfl) (fun v => Nat.le_of_ble_eq_true rfl) ?_
  show J (sG3 s G) (s + 5) 4 93 (pS (s + 3) (sS2 s S)) 32 _ _
  have X := C.cx (sz := s + 5) (n1 := 4) (n2 := 93) A3 (by omega) (by omega)
  refine r_aload_n X d_Split_init_32 (by rfl) ?_
  refine cn_new C (F := fun v => [.null, .int v]) (x0 := 0) ln_Split_18 (by omega) (by omega) d_Split_init_33 ?_
  have X := C.cx (sz := s + 5 + 1) (n1 := 4 + 1) (n2 := 93 + 2) A3' (by omega) (by omega)
  refine r_dup X d_Split_init_36 (by rfl) ?_
  refine r_bipush X (x := (nI 64)) d_Split_init_37 (by decide) ?_
  refine cn_call C (As := [.int (nI 64)]) (rest := [.ref (s + 5), .ref s]) (b := s + 5) li_Split_20 (n_poly (p := s + 5) (n := 64) (G := sG3 s G) (S := pS (s + 3) (sS2 s S)) (by omega)) A3' (fun q h => Az q (by omega)) (by decide) rfl (by omega) (by omega) (Nat.le_of_ble_eq_true rfl) d_Split_init_39 rfl ?_
  have g4 : (pG (s + 5) 64 (sG3 s G)) s = some (kObj iSplit (fun _ => [.ref (s + 1), .ref (s + 2), .ref (s + 3), .null, .null])) := by
    rw [pG_n (by omega)]
    unfold sG3
    rw [va_up_s]
    rfl
  refine cn_putF C (F' := fun _ => [.ref (s + 1), .ref (s + 2), .ref (s + 3), .ref (s + 5), .null]) lg_Split_27 d_Split_init_42 g4 At (fun v => rfl) (fun v => Nat.le_of_ble_eq_true rfl) ?_
  show J (sG4 s G) (s + 7) 6 159 (pS (s + 5) (pS (s + 3) (sS2 s S))) 45 _ _
  have X := C.cx (sz := s + 7) (n1 := 6) (n2 := 159) A4 (by omega) (by omega)
  refine r_aload_n X d_Split_init_45 (by rfl) ?_
  refine cn_new C (F := fun v => [.null, .int v]) (x0 := 0) ln_Split_18 (by omega) (by omega) d_Split_init_46 ?_
  have X := C.cx (sz := s + 7 + 1) (n1 := 6 + 1) (n2 := 159 + 2) A4' (by omega) (by omega)
  refine r_dup X d_Split_init_49 (by rfl) ?_
  refine r_bipush X (x := (nI 64)) d_Split_init_50 (by decide) ?_
  refine cn_call C (As := [.int (nI 64)]) (rest := [.ref (s + 7), .ref s]) (b := s + 7) li_Split_20 (n_poly (p := s + 7) (n := 64) (G := sG4 s G) (S := pS (s + 5) (pS (s + 3) (sS2 s S))) (by omega)) A4' (fun q h => Az q (by omega)) (by decide) rfl (by omega) (by omega) (Nat.le_of_ble_eq_true rfl) d_Split_init_52 rfl ?_
  have g5 : (pG (s + 7) 64 (sG4 s G)) s = some (kObj iSplit (fun _ => [.ref (s + 1), .ref (s + 2), .ref (s + 3), .ref (s + 5), .null])) := by
    rw [pG_n (by omega)]
    unfold sG4
    rw [va_up_s]
    rfl
  refine cn_putF C (F' := fun _ => [.ref (s + 1), .ref (s + 2), .ref (s + 3), .ref (s + 5), .ref (s + 7)]) lg_Split_30 d_Split_init_55 g5 At (fun v => rfl) (fun v => Nat.le_of_ble_eq_true rfl) ?_
  exact hR _ _ d_Split_init_58
end CM
