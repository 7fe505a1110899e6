def Cno (C0 : String) (E : Ev) (own : String) (cc : ByteArray) (nL k c1 c2 : Nat) (mn : String) (A : Nat → Prop) (J : Gm → Nat → Nat → Nat → Jt) : Prop :=
  ∃ (p : Program) (e : Env) (R : Room) (s : State) (m : MethodId) (args : Array Value) (below : List Frame) (meth : Method) (c : Code) (Q : State → Prop),
    (p.tables.exec = Jvm.exec ∧ c.code = cc ∧ c.maxLocals = nL ∧ s.vm.findClass own = some m.cls ∧ (∀ w ∈ eW E, w.before args s = true)) ∧ va_K (eD E) (eC E) (eT E) s ∧ (∀ w ∈ eN E, va_Nw w s) ∧ (k ≤ R.frames ∧ 40 * k ≤ R.locals ∧ c1 ≤ R.cells ∧ c2 ≤ R.slots) ∧ eOK E ∧ (∀ q, s.heap.size ≤ q → A q) ∧ meth.name = mn ∧ va_AO C0 s ∧
    J = fun G sz n1 n2 => jw p e R s m args below meth c E G A sz n1 n2 nL Q
section MKO
variable {C0 : String} {E : Ev} {own : String} {cc : ByteArray} {nL k c1 c2 : Nat} {mn : String} {A : Nat → Prop} {J : Gm → Nat → Nat → Nat → Jt} {G : Gm} {S : Sg} {sz n1 n2 pc : Nat} {L : List (Option Value)} {st : List Value}
theorem Cno.cn (X : Cno C0 E own cc nL k c1 c2 mn A J) : Cn E own cc nL k c1 c2 mn A J := by
  obtain ⟨p, e, R, s, m, args, below, meth, c, Q, h1, hK, hN, hR, hE, hA, hmn, -, hJ⟩ := X
  exact ⟨p, e, R, s, m, args, below, meth, c, Q, h1, hK, hN, hR, hE, hA, hmn, hJ⟩
theorem cno_newq (X : Cno C0 E own cc nL k c1 c2 mn A J) {idx n : Nat} {cT : ClassId} (hw : Cond.classLink own idx C0 ∈ eW E) (hT : (eT E)[1]? = some (cT, .object C0)) (hn : n ≤ 100000) (h1 : n1 + 1 ≤ c1) (h2 : n2 + n ≤ c2) (d : decode cc pc = .ok (.anewarray idx, 3))
    (kk : J (va_up G sz (some (kFix (.inl (cT, n, .inr (.inr (.inr (.inr (fun _ => none))))))))) (sz + 1) (n1 + 1) (n2 + n) S (pc + 3) L (.ref sz :: st)) : J G sz n1 n2 S pc L (.int (nI n) :: st) := by
  obtain ⟨p, e, R, s, m, args, below, meth, c, Q, ⟨hx, hb, hml, hown, hts⟩, hK, hN, hR, hE, hA, hmn, hAO, rfl⟩ := X
  intro H locs ls hP hz hS hll
  subst hz
  have kn : (nI n).toNatClampNeg = n := nI_clamp (by omega)
  refine W.anew hx hb hown (hts _ hw) hAO.use rfl d rfl (nI_pos (by omega)) (by rw [kn]; omega) (Nat.le_trans h1 hR.2.2.1) (by rw [kn]; exact Nat.le_trans h2 hR.2.2.2) fun cA kA comp f1 f2 f3 f4 => ?_
  rw [kn]
  obtain ⟨kB, compB, g1, g2, g3, g4⟩ := (hK.2 1 _ hT).2
  have hcA : cA = cT := Option.some.inj (f1.symm.trans g4)
  subst hcA
  refine kk _ locs ls (hP.grow (fun q hq => by rw [Array.getElem?_push, if_neg (Nat.ne_of_lt hq)]) (fun a ha => ⟨rfl, rfl⟩) (fun e' he => ?_)) (by rw [Array.size_push]) ⟨Nat.le_trans hS.1 (by rw [Array.size_push]; omega), fun x g1 g2 => by rw [Array.getElem?_push, if_neg (Nat.ne_of_lt (Nat.lt_of_lt_of_le g1 hS.1))]; exact hS.2.1 x g1 g2, hS.2.2⟩ hll
  rw [wl_fix (va_up_s _ _ _)] at he
  cases he
  show (H.push _)[H.size]? = some (vp_cell _ _)
  rw [Array.getElem?_push_size, vp_cell_q, ← arrV_new]
  rfl
def CNO (C0 : String) (E : Ev) (G : Gm) (y : MethodName) (cc : ByteArray) (nL k mc ms : Nat) (av : List Value) (S : Sg) (sz : Nat) (G' : Gm) (S' : Sg) : Prop :=
  Met (eL E) y (Cond.code y cc nL none :: eW E) { frames := k, cells := mc, slots := ms, locals := 40 * k } (va_Pc av (fun U => (wPc E G S U ∧ U.heap.size = sz) ∧ va_AO C0 U)) (fun _ st oc t => (oc = .returned none ∧ wP E G' S' t.heap ∧ t.heap.size = sz + mc) ∧ va_F (fun q => dG G q ∨ sz ≤ q) st t) mc ms (fun q => dG G q ∨ sz ≤ q)
theorem mk_no {y : MethodName} {mc ms : Nat} {av : List Value} {G' : Gm} {S' : Sg} (hy : plainName y.cls = true) (hyn : y.name = "<init>") (hE : eOK E) (hav : ∀ v ∈ av, v.category = 1) (hlen : av.length ≤ nL)
    (body : ∀ J : Gm → Nat → Nat → Nat → Jt, Cno C0 E y.cls cc nL k mc ms "<init>" (fun q => dG G q ∨ sz ≤ q) J → (∀ (pc : Nat) (L : List (Option Value)), decode cc pc = .ok (.return_, 1) → J G' (sz + mc) mc ms S' pc L []) → J G sz 0 0 S 0 (av.map some ++ List.replicate (nL - av.length) none) []) : CNO C0 E G y cc nL k mc ms av S sz G' S' := by
  refine Met.ofW (cc := cc) (maxL := nL) (ret := none) hy rfl ?_
  intro p e s m args below meth c s₁ B hml hv
  obtain ⟨rfl, ⟨⟨hP, hK, hN⟩, hsz⟩, hAO⟩ := hv
  have hx := B.exec
  have hb := B.bytes
  have hr := B.returns
  have hts := atoms_spec (ws := Cond.code y cc nL none :: eW E) B.pre
  have hown : s.vm.findClass y.cls = some m.cls := findClass_of_methodNamed B.named
  have hlocks := B.notSynchronized
  have hin : meth.name = "<init>" := by rw [← hyn]; exact (name_of_methodNamed B.named B.method).1
  rw [lg_entry_eq]
  subst hsz
  refine body (fun G sz n1 n2 => jw p e _ s m av.toArray below meth c E G (fun q => dG _ q ∨ s.heap.size ≤ q) sz n1 n2 nL _) ⟨p, e, _, s, m, av.toArray, below, meth, c, _, ⟨hx, hb, hml, hown, fun w h => hts w (List.mem_cons_of_mem _ h)⟩, hK, hN, ⟨Nat.le_refl _, Nat.le_refl _, Nat.le_refl _, Nat.le_refl _⟩, hE, fun _ h => Or.inr h, hin, hAO, rfl⟩ ?_ s.heap [] _ hP rfl va_S.rf (lo_entry hav hlen)
  intro pc L d H locs ls hP1 hz1 hS1 hl1
  exact W.vret hx hb hr (fun t ht hW => ⟨⟨rfl, by rw [ht]; exact hP1, by rw [ht]; exact hz1⟩, hS1.F ht⟩) hS1.2.2 d
theorem cno_call (X : Cno C0 E own cc nL k c1 c2 mn A J) {idx nL2 n k2 b mc ms : Nat} {y : MethodName} {cb : ByteArray} {As rest : List Value} {G' : Gm} {S' : Sg} (hl : lkI (eW E) own idx y cb nL2 n) (hM : CNO C0 E G y cb nL2 k2 mc ms (.ref b :: As) S sz G' S') (hAG : ∀ q, dG G q → A q) (hAz : ∀ q, sz ≤ q → A q) (hk : k2 + 1 ≤ k) (hn : As.length = n) (h1 : n1 + mc ≤ c1) (h2 : n2 + ms ≤ c2) (hw : (rest.map fun v => v.category).sum ≤ 8) (d : decode cc pc = .ok (.invokespecial idx, 3)) (hst : st = As.reverse ++ .ref b :: rest)
    (kk : J G' (sz + mc) (n1 + mc) (n2 + ms) S' (pc + 3) L rest) : J G sz n1 n2 S pc L st := by
  obtain ⟨p, e, R, s, m, args, below, meth, c, Q, ⟨hx, hb, hml, hown, hts⟩, hK, hN, hR, hE, hA, hmn, hAO, rfl⟩ := X
  obtain ⟨w1, w2, w3, w4, w7, w5, w6⟩ := hl
  intro H locs ls hP hz hS hll
  subst hst
  have hrun := va_runI (p := p) (l := eL E) (e := e) (R := R) (below := below) (meth := meth) (locs := locs) (cells := n1) (slots := n2) (H := H) (g := F0 m pc ls (As.reverse ++ .ref b :: rest)) (cc := cc) (nL := nL) (Ts := eW E) (own := own) (b := b) (As := As) (rest := rest) ⟨hx, hb, hml, hown, hts⟩ hM ⟨callB_of n hts (gd_in hE w1) rfl rfl rfl (hts _ w4) (hts _ w2) w5 ⟨by show k2 + 1 ≤ R.frames; omega, by show 8 + (nL2 + 11) + 40 * k2 ≤ R.locals; omega⟩, w7, hts _ w3⟩ ⟨fun a U g mk q => by
      obtain ⟨q0, ⟨⟨qP, qK, qN⟩, qz⟩, qO⟩ := q
      exact ⟨q0, ⟨⟨qP, va_K.moved (u := U) (U := U.calling g mk a) (Vm.Alike.refl U.vm) qK, fun w hw => nw_same (hE.2.1 w hw) (s := U) (U := U.calling g mk a) rfl (qN w hw)⟩, qz⟩, va_AO.moved (u := U) (U := U.calling g mk a) (Vm.Alike.refl U.vm) qO⟩, fun U hU hW => ⟨rfl, ⟨⟨by rw [hU]; exact hP, va_K.moved hW.alike hK, fun w hw => nw_warm (hE.2.1 w hw) hW (hN w hw)⟩, by rw [hU]; exact hz⟩, va_AO.moved hW.alike hAO⟩⟩ rfl hn hll.1.1 rfl (lv_room hw) d ⟨Nat.le_trans h1 hR.2.2.1, Nat.le_trans h2 hR.2.2.2⟩
  intro T hT X
  obtain ⟨v, st₀, t, T', Lc, h0, X', hL, e1, e2, ⟨⟨hv, hb1, hb2⟩, hzz, hkk⟩, sst⟩ := hrun T hT X
  cases hv
  rw [h0] at hzz hkk
  obtain ⟨t2, a1, b1⟩ := kk T'.heap (locs ++ Lc) ls (by rw [e1]; exact hb1) (by rw [e1]; exact hb2)
    ⟨Nat.le_trans hS.1 (by rw [e1]; exact hzz), fun q g1 g2 => by rw [e1, hkk q (Nat.lt_of_lt_of_le g1 hS.1) (fun z => g2 (z.elim (hAG q) (hAz q)))]; exact hS.2.1 q g1 g2, fun q hq => by
      rcases List.mem_append.mp hq with h | h
      · exact hS.2.2 q h
      · exact (hL q h).elim (hAG _) (hAz _)⟩ hll T' rfl X'
  exact ⟨t2, sst t2 a1, b1⟩
end MKO
def kD0 : Kd := kObj iDesk (fun _ => [.null, .null, .null, .null, .null])
def kD1 (B : Nat) : Kd := kObj iDesk (fun _ => [.ref (B + 1), .null, .null, .null, .null])
def kD2 (B : Nat) : Kd := kObj iDesk (fun _ => [.ref (B + 1), .ref (B + 34), .null, .null, .null])
def kD3 (B : Nat) : Kd := kObj iDesk (fun _ => [.ref (B + 1), .ref (B + 34), .ref (B + 38), .null, .null])
def kD4 (B : Nat) : Kd := kObj iDesk (fun _ => [.ref (B + 1), .ref (B + 34), .ref (B + 38), .ref (B + 42), .null])
def kD5 (B : Nat) : Kd := kObj iDesk (fun _ => [.ref (B + 1), .ref (B + 34), .ref (B + 38), .ref (B + 42), .ref (B + 49)])
def kSl (cT : ClassId) (f : Nat → Option Nat) : Kd := kFix (.inl (cT, 8, .inr (.inr (.inr (.inr f)))))
def slk (B : Nat) : Nat → Nat → Option Nat
  | 0 => fun _ => none
  | k + 1 => va_up (slk B k) k (some (B + 2 + 4 * k))
theorem slk_at (B : Nat) : ∀ k, slk B k = fun i => if i < k then some (B + 2 + 4 * i) else none := by
  intro k
  induction k with
  | zero => funext i; rw [if_neg (by omega)]; rfl
  | succ k ih =>
    show va_up (slk B k) k (some (B + 2 + 4 * k)) = _
    rw [ih]
    exact up_lt (fun i => some (B + 2 + 4 * i)) (fun _ => none) k
def eG0 (cT : ClassId) (B : Nat) (G : Gm) : Gm := va_up (va_up (va_up G B (some kD0)) (B + 1) (some (kSl cT (fun _ => none)))) B (some (kD1 B))
def eGk (cT : ClassId) (B : Nat) (G : Gm) : Nat → Gm
  | 0 => eG0 cT B G
  | k + 1 => va_up (tG (B + 2 + 4 * k) 32 (eGk cT B G k)) (B + 1) (some (kSl cT (slk B (k + 1))))
def eSk (B : Nat) (S : Sg) : Nat → Sg
  | 0 => fdS S B 0
  | k + 1 => tS (B + 2 + 4 * k) (eSk B S k)
theorem eGk_n {cT : ClassId} {B : Nat} {G : Gm} : ∀ k q, (q < B ∨ B + 2 + 4 * k ≤ q) → eGk cT B G k q = G q := by
  intro k
  induction k with
  | zero =>
    intro q hq
    show eG0 cT B G q = G q
    unfold eG0
    rw [va_up_n (by omega), va_up_n (by omega), va_up_n (by omega)]
  | succ k ih =>
    intro q hq
    show va_up _ (B + 1) _ q = G q
    rw [va_up_n (by omega), tG_n (by omega)]
    exact ih q (by omega)
theorem eGk_B {cT : ClassId} {B : Nat} {G : Gm} : ∀ k, eGk cT B G k B = some (kD1 B) := by
  intro k
  induction k with
  | zero =>
    show eG0 cT B G B = _
    unfold eG0
    rw [va_up_s]
  | succ k ih =>
    show va_up _ (B + 1) _ B = _
    rw [va_up_n (by omega), tG_n (by omega)]
    exact ih
theorem eGk_S {cT : ClassId} {B : Nat} {G : Gm} (k : Nat) : eGk cT B G k (B + 1) = some (kSl cT (slk B k)) := by
  cases k with
  | zero =>
    show eG0 cT B G (B + 1) = _
    unfold eG0
    rw [va_up_n (by omega), va_up_s]
    rfl
  | succ k =>
    show va_up _ (B + 1) _ (B + 1) = _
    rw [va_up_s]
theorem eGk_T {cT : ClassId} {B : Nat} {G : Gm} : ∀ k i, i < k → isT (eGk cT B G k) (B + 2 + 4 * i) 32 := by
  intro k
  induction k with
  | zero => intro i hi; omega
  | succ k ih =>
    intro i hi
    by_cases e : i = k
    · rw [e]
      refine isT.cg (tG_is (t := B + 2 + 4 * k) (n := 32) (G := eGk cT B G k) (by omega) (by omega)) (fun a h1 h2 => ?_)
      show va_up _ (B + 1) _ a = _
      rw [va_up_n (by omega)]
    · refine isT.cg (ih i (by omega)) (fun a h1 h2 => ?_)
      show va_up _ (B + 1) _ a = _
      rw [va_up_n (by omega), tG_n (by omega)]
theorem eGk_A {cT : ClassId} {B : Nat} {G : Gm} {A : Nat → Prop} (h : ∀ q, dG (va_up G B (some kD0)) q → A q) (hB : A B) (hz : ∀ q, B + 1 ≤ q → A q) : ∀ k q, dG (eGk cT B G k) q → A q := by
  intro k
  induction k with
  | zero => exact dG_up (dG_up h (hz _ (by omega))) hB
  | succ k ih => exact dG_up (tG_A ih (fun q h1 h2 => hz q (by omega))) (hz _ (by omega))
theorem eSk_o {B : Nat} {S : Sg} : ∀ k a, (a < B ∨ B + 2 + 4 * k ≤ a) → (eSk B S k).1 a = S.1 a ∧ (eSk B S k).2 a = S.2 a := by
  intro k
  induction k with
  | zero =>
    intro a ha
    show (fdS S B 0).1 a = S.1 a ∧ (fdS S B 0).2 a = S.2 a
    rw [fdS_1, fdS_2n (by omega)]
    exact ⟨rfl, rfl⟩
  | succ k ih =>
    intro a ha
    have h1 := tS_o (B + 2 + 4 * k) (eSk B S k) a (by omega)
    have h2 := ih a (by omega)
    exact ⟨h1.1.trans h2.1, h1.2.trans h2.2⟩
theorem eSk_T {B : Nat} {S : Sg} : ∀ k i, i < k → tIs (eSk B S k) (B + 2 + 4 * i) 32 (fun _ => 0) (fun _ => 0) 1 := by
  intro k
  induction k with
  | zero => intro i hi; omega
  | succ k ih =>
    intro i hi
    by_cases e : i = k
    · rw [e]; exact tS_is _ _ _
    · exact (ih i (by omega)).out (tS_o (B + 2 + 4 * k) (eSk B S k)) (by omega)
def eG2 (cT : ClassId) (B : Nat) (G : Gm) : Gm := va_up (tG (B + 34) 64 (eGk cT B G 8)) B (some (kD2 B))
def eG3 (cT : ClassId) (B : Nat) (G : Gm) : Gm := va_up (tG (B + 38) 64 (eG2 cT B G)) B (some (kD3 B))
def eG4 (cT : ClassId) (B : Nat) (G : Gm) : Gm := va_up (cG (B + 42) (eG3 cT B G)) B (some (kD4 B))
def eGf (cT : ClassId) (B : Nat) (G : Gm) : Gm := va_up (sG (B + 49) (eG4 cT B G)) B (some (kD5 B))
def eSf (B : Nat) (S : Sg) : Sg := sS (B + 49) (cS (B + 42) (tS (B + 38) (tS (B + 34) (eSk B S 8))))
theorem eGf_n {cT : ClassId} {B q : Nat} {G : Gm} (h : q < B ∨ B + 58 ≤ q) : eGf cT B G q = G q := by
  unfold eGf eG4 eG3 eG2
  rw [va_up_n (by omega), sG_n (by omega), va_up_n (by omega), cG_n (by omega), va_up_n (by omega), tG_n (by omega), va_up_n (by omega), tG_n (by omega), eGk_n 8 q (by omega)]
theorem eGf_lo {cT : ClassId} {B q : Nat} {G : Gm} (h : q ≠ B) (h2 : q < B + 34) : eGf cT B G q = eGk cT B G 8 q := by
  unfold eGf eG4 eG3 eG2
  rw [va_up_n h, sG_n (by omega), va_up_n h, cG_n (by omega), va_up_n h, tG_n (by omega), va_up_n h, tG_n (by omega)]
theorem eGf_is {cT : ClassId} {B : Nat} {G : Gm} : isD (eGf cT B G) cT B := by
  refine ⟨?_, ?_, ?_, ?_, ?_, ?_, ?_⟩
  · unfold eGf
    rw [va_up_s]
    rfl
  · rw [eGf_lo (by omega) (by omega), eGk_S, slk_at]
    rfl
  · intro k hk
    exact (eGk_T 8 k hk).cg (fun a h1 h2 => eGf_lo (by omega) (by omega))
  · refine isT.cg (tG_is (t := B + 34) (n := 64) (G := eGk cT B G 8) (by omega) (by omega)) (fun a h1 h2 => ?_)
    unfold eGf eG4 eG3 eG2
    rw [va_up_n (by omega), sG_n (by omega), va_up_n (by omega), cG_n (by omega), va_up_n (by omega), tG_n (by omega), va_up_n (by omega)]
  · refine isT.cg (tG_is (t := B + 38) (n := 64) (G := eG2 cT B G) (by omega) (by omega)) (fun a h1 h2 => ?_)
    unfold eGf eG4 eG3
    rw [va_up_n (by omega), sG_n (by omega), va_up_n (by omega), cG_n (by omega), va_up_n (by omega)]
  · refine isC.cg (cG_is (c := B + 42) (G := eG3 cT B G)) (fun a h1 h2 => ?_)
    unfold eGf eG4
    rw [va_up_n (by omega), sG_n (by omega), va_up_n (by omega)]
  · refine isS.cg (sG_is (s := B + 49) (G := eG4 cT B G)) (fun a h1 h2 => ?_)
    unfold eGf
    rw [va_up_n (by omega)]
theorem eSf_o {B : Nat} {S : Sg} {a : Nat} (h : a < B ∨ B + 58 ≤ a) : (eSf B S).1 a = S.1 a ∧ (eSf B S).2 a = S.2 a := by
  have h1 := sS_o (B + 49) (cS (B + 42) (tS (B + 38) (tS (B + 34) (eSk B S 8)))) a (by omega)
  have h2 := cS_o (B + 42) (tS (B + 38) (tS (B + 34) (eSk B S 8))) a (by omega)
  have h3 := tS_o (B + 38) (tS (B + 34) (eSk B S 8)) a (by omega)
  have h4 := tS_o (B + 34) (eSk B S 8) a (by omega)
  have h5 := eSk_o (B := B) (S := S) 8 a (by omega)
  unfold eSf
  exact ⟨h1.1.trans (h2.1.trans (h3.1.trans (h4.1.trans h5.1))), h1.2.trans (h2.2.trans (h3.2.trans (h4.2.trans h5.2)))⟩
def V0 : Vt := fun _ => (fun _ => 0, fun _ => 0, 1)
theorem eSf_rep {B : Nat} {S : Sg} : Rep (eSf B S) B V0 := by
  intro k hk
  have h := eSk_T (B := B) (S := S) 8 k hk
  unfold eSf
  exact (((h.out (tS_o (B + 34) _) (by omega)).out (tS_o (B + 38) _) (by omega)).out (cS_o (B + 42) _) (by omega)).out (sS_o (B + 49) _) (by omega)
theorem V0_ok : gV V0 := by
  have hz : okP 32 (fun _ => 0) := zero_ok 32
  refine ⟨fun k hk => ⟨hz, fun i => Nat.zero_le _, fun i hi => rfl, Nat.le_refl 1, Nat.le_of_ble_eq_true rfl⟩, fun k hk => ⟨fun _ => ⟨rfl, rfl⟩, fun b hb h0 => absurd h0 (Nat.lt_irrefl 0)⟩⟩
def kM0 : Kd := kObj iModel (fun v => [.null, .null, .null, .null, .null, .int v, .null, .null, .null, .null])
def kM1 (m : Nat) : Kd := kObj iModel (fun v => [.ref (m + 1), .null, .null, .null, .null, .int v, .null, .null, .null, .null])
def kM2 (m : Nat) : Kd := kObj iModel (fun v => [.ref (m + 1), .ref (m + 2), .null, .null, .null, .int v, .null, .null, .null, .null])
def kM3 (m : Nat) : Kd := kObj iModel (fun v => [.ref (m + 1), .ref (m + 2), .ref (m + 3), .null, .null, .int v, .null, .null, .null, .null])
def kM4 (m : Nat) : Kd := kObj iModel (fun v => [.ref (m + 1), .ref (m + 2), .ref (m + 3), .ref (m + 4), .null, .int v, .null, .null, .null, .null])
def kM5 (m : Nat) : Kd := kObj iModel (fun v => [.ref (m + 1), .ref (m + 2), .ref (m + 3), .ref (m + 4), .ref (m + 5), .int v, .null, .null, .null, .null])
def kM6 (m : Nat) : Kd := kObj iModel (fun v => [.ref (m + 1), .ref (m + 2), .ref (m + 3), .ref (m + 4), .ref (m + 5), .int v, .ref (m + 6), .null, .null, .null])
def kM7 (m : Nat) : Kd := kObj iModel (fun v => [.ref (m + 1), .ref (m + 2), .ref (m + 3), .ref (m + 4), .ref (m + 5), .int v, .ref (m + 6), .ref (m + 7), .null, .null])
def kM8 (m : Nat) : Kd := kObj iModel (fun v => [.ref (m + 1), .ref (m + 2), .ref (m + 3), .ref (m + 4), .ref (m + 5), .int v, .ref (m + 6), .ref (m + 7), .ref (m + 8), .null])
def kM9 (m : Nat) : Kd := kObj iModel (fun v => [.ref (m + 1), .ref (m + 2), .ref (m + 3), .ref (m + 4), .ref (m + 5), .int v, .ref (m + 6), .ref (m + 7), .ref (m + 8), .ref (m + 9)])
def mG0 (m : Nat) (G : Gm) : Gm := va_up G m (some kM0)
def mG1 (m : Nat) (G : Gm) : Gm := va_up (va_up (mG0 m G) (m + 1) (some (kArr 256))) m (some (kM1 m))
def mG2 (m : Nat) (G : Gm) : Gm := va_up (va_up (mG1 m G) (m + 2) (some (kArr 64))) m (some (kM2 m))
def mG3 (m : Nat) (G : Gm) : Gm := va_up (va_up (mG2 m G) (m + 3) (some (kArr 8))) m (some (kM3 m))
def mG4 (m : Nat) (G : Gm) : Gm := va_up (va_up (mG3 m G) (m + 4) (some (kArr 320))) m (some (kM4 m))
def mG5 (m : Nat) (G : Gm) : Gm := va_up (va_up (mG4 m G) (m + 5) (some (kArr 9))) m (some (kM5 m))
def mG6 (m : Nat) (G : Gm) : Gm := va_up (va_up (mG5 m G) (m + 6) (some (kArr 24))) m (some (kM6 m))
def mG7 (m : Nat) (G : Gm) : Gm := va_up (va_up (mG6 m G) (m + 7) (some (kArr 24))) m (some (kM7 m))
def mG8 (m : Nat) (G : Gm) : Gm := va_up (va_up (mG7 m G) (m + 8) (some (kArr 8))) m (some (kM8 m))
def mG9 (m : Nat) (G : Gm) : Gm := va_up (va_up (mG8 m G) (m + 9) (some (kArr 33))) m (some (kM9 m))
def mS0 (m : Nat) (S : Sg) : Sg := fdS S m 0
def mS1 (m : Nat) (S : Sg) : Sg := arS (mS0 m S) (m + 1) (fun _ => 0)
def mS2 (m : Nat) (S : Sg) : Sg := arS (mS1 m S) (m + 2) (fun _ => 0)
def mS3 (m : Nat) (S : Sg) : Sg := arS (mS2 m S) (m + 3) (fun _ => 0)
def mS4 (m : Nat) (S : Sg) : Sg := arS (mS3 m S) (m + 4) (fun _ => 0)
def mS5 (m : Nat) (S : Sg) : Sg := arS (mS4 m S) (m + 5) (fun _ => 0)
def mS6 (m : Nat) (S : Sg) : Sg := arS (mS5 m S) (m + 6) (fun _ => 0)
def mS7 (m : Nat) (S : Sg) : Sg := arS (mS6 m S) (m + 7) (fun _ => 0)
def mS8 (m : Nat) (S : Sg) : Sg := arS (mS7 m S) (m + 8) (fun _ => 0)
def mS9 (m : Nat) (S : Sg) : Sg := arS (mS8 m S) (m + 9) (fun _ => 0)
def mSf (m : Nat) (S : Sg) : Sg := arS (mS9 m S) (m + 3) (fun i => if i < 8 then 1 else 0)
theorem mG_n {m q : Nat} {G : Gm} (h : q < m ∨ m + 10 ≤ q) : mG9 m G q = G q := by
  unfold mG9 mG8 mG7 mG6 mG5 mG4 mG3 mG2 mG1 mG0
  rw [va_up_n (by omega), va_up_n (by omega), va_up_n (by omega), va_up_n (by omega), va_up_n (by omega), va_up_n (by omega), va_up_n (by omega), va_up_n (by omega), va_up_n (by omega), va_up_n (by omega), va_up_n (by omega), va_up_n (by omega), va_up_n (by omega), va_up_n (by omega), va_up_n (by omega), va_up_n (by omega), va_up_n (by omega), va_up_n (by omega), va_up_n (by omega)]
theorem mG_is {m : Nat} {G : Gm} : isM (mG9 m G) m := by
  refine ⟨?_, ?_, ?_, ?_, ?_, ?_, ?_, ?_, ?_, ?_⟩
  · unfold mG9
    rw [va_up_s]
    rfl
  · unfold mG9 mG8 mG7 mG6 mG5 mG4 mG3 mG2 mG1
    rw [va_up_n (by omega), va_up_n (by omega), va_up_n (by omega), va_up_n (by omega), va_up_n (by omega), va_up_n (by omega), va_up_n (by omega), va_up_n (by omega), va_up_n (by omega), va_up_n (by omega), va_up_n (by omega), va_up_n (by omega), va_up_n (by omega), va_up_n (by omega), va_up_n (by omega), va_up_n (by omega), va_up_n (by omega), va_up_s]
  · unfold mG9 mG8 mG7 mG6 mG5 mG4 mG3 mG2
    rw [va_up_n (by omega), va_up_n (by omega), va_up_n (by omega), va_up_n (by omega), va_up_n (by omega), va_up_n (by omega), va_up_n (by omega), va_up_n (by omega), va_up_n (by omega), va_up_n (by omega), va_up_n (by omega), va_up_n (by omega), va_up_n (by omega), va_up_n (by omega), va_up_n (by omega), va_up_s]
  · unfold mG9 mG8 mG7 mG6 mG5 mG4 mG3
    rw [va_up_n (by omega), va_up_n (by omega), va_up_n (by omega), va_up_n (by omega), va_up_n (by omega), va_up_n (by omega), va_up_n (by omega), va_up_n (by omega), va_up_n (by omega), va_up_n (by omega), va_up_n (by omega), va_up_n (by omega), va_up_n (by omega), va_up_s]
  · unfold mG9 mG8 mG7 mG6 mG5 mG4
    rw [va_up_n (by omega), va_up_n (by omega), va_up_n (by omega), va_up_n (by omega), va_up_n (by omega), va_up_n (by omega), va_up_n (by omega), va_up_n (by omega), va_up_n (by omega), va_up_n (by omega), va_up_n (by omega), va_up_s]
  · unfold mG9 mG8 mG7 mG6 mG5
    rw [va_up_n (by omega), va_up_n (by omega), va_up_n (by omega), va_up_n (by omega), va_up_n (by omega), va_up_n (by omega), va_up_n (by omega), va_up_n (by omega), va_up_n (by omega), va_up_s]
  · unfold mG9 mG8 mG7 mG6
    rw [va_up_n (by omega), va_up_n (by omega), va_up_n (by omega), va_up_n (by omega), va_up_n (by omega), va_up_n (by omega), va_up_n (by omega), va_up_s]
  · unfold mG9 mG8 mG7
    rw [va_up_n (by omega), va_up_n (by omega), va_up_n (by omega), va_up_n (by omega), va_up_n (by omega), va_up_s]
  · unfold mG9 mG8
    rw [va_up_n (by omega), va_up_n (by omega), va_up_n (by omega), va_up_s]
  · unfold mG9
    rw [va_up_n (by omega), va_up_s]
theorem mS_o {m a : Nat} {S : Sg} (h : a < m ∨ m + 10 ≤ a) : (mSf m S).1 a = S.1 a ∧ (mSf m S).2 a = S.2 a := by
  unfold mSf mS9 mS8 mS7 mS6 mS5 mS4 mS3 mS2 mS1 mS0
  rw [arS_1n (by omega), arS_1n (by omega), arS_1n (by omega), arS_1n (by omega), arS_1n (by omega), arS_1n (by omega), arS_1n (by omega), arS_1n (by omega), arS_1n (by omega), arS_1n (by omega), arS_2, arS_2, arS_2, arS_2, arS_2, arS_2, arS_2, arS_2, arS_2, arS_2, fdS_1, fdS_2n (by omega)]
  exact ⟨rfl, rfl⟩
theorem mS_1 {m : Nat} {S : Sg} : (mS9 m S).1 (m + 1) = fun _ => 0 := by
  unfold mS9 mS8 mS7 mS6 mS5 mS4 mS3 mS2 mS1
  rw [arS_1n (by omega), arS_1n (by omega), arS_1n (by omega), arS_1n (by omega), arS_1n (by omega), arS_1n (by omega), arS_1n (by omega), arS_1n (by omega), arS_1]
theorem mS_2 {m : Nat} {S : Sg} : (mS9 m S).1 (m + 2) = fun _ => 0 := by
  unfold mS9 mS8 mS7 mS6 mS5 mS4 mS3 mS2
  rw [arS_1n (by omega), arS_1n (by omega), arS_1n (by omega), arS_1n (by omega), arS_1n (by omega), arS_1n (by omega), arS_1n (by omega), arS_1]
theorem mS_3 {m : Nat} {S : Sg} : (mS9 m S).1 (m + 3) = fun _ => 0 := by
  unfold mS9 mS8 mS7 mS6 mS5 mS4 mS3
  rw [arS_1n (by omega), arS_1n (by omega), arS_1n (by omega), arS_1n (by omega), arS_1n (by omega), arS_1n (by omega), arS_1]
theorem mS_4 {m : Nat} {S : Sg} : (mS9 m S).1 (m + 4) = fun _ => 0 := by
  unfold mS9 mS8 mS7 mS6 mS5 mS4
  rw [arS_1n (by omega), arS_1n (by omega), arS_1n (by omega), arS_1n (by omega), arS_1n (by omega), arS_1]
theorem mSf_rep {m : Nat} {S : Sg} : MI (mSf m S) m V0 := by
  refine ⟨fun s hs => ⟨fun i hi => ?_, fun b hb => ?_, ?_⟩, fun j => ?_⟩
  · unfold mSf
    rw [arS_1n (by omega), mS_1]
    rfl
  · unfold mSf
    rw [arS_1n (by omega), mS_2]
    rfl
  · unfold mSf
    rw [arS_1, if_pos hs]
    rfl
  · unfold mSf
    rw [arS_1n (by omega), mS_4]
    exact (by decide : 0 < 10007)
section CN2
variable {l : Launch} {D : va_G} {cI cT : ClassId} {G : Gm} {S : Sg}
set_option maxHeartbeats 8000000 in
set_option maxRecDepth 100000 in
theorem n_desk {B : Nat} : CNO "TelescopeDesk$Term" (mkE l D cI cT) (va_up G B (some kD0)) y_Desk_init b_Desk_init 2 4 57 908 [.ref B] (fdS S B 0) (B + 1) (eGf cT B G) (eSf B S) := by
  refine mk_no (by decide) rfl (eok l D cI cT) (by simp [Value.category]) (Nat.le_of_ble_eq_true rfl) (fun J Co hR => ?_)
  show J (va_up G B (some kD0)) (B + 1) 0 0 (fdS S B 0) 0 [some (.ref B), none] []
  have C := Co.cn
  have At : dG (va_up G B (some kD0)) B ∨ B + 1 ≤ B := Or.inl dG_s
  have Az : ∀ q, B + 1 ≤ q → (dG (va_up G B (some kD0)) q ∨ B + 1 ≤ q) := fun q h => Or.inr h
  have A0 : ∀ q, dG (va_up G B (some kD0)) q → (dG (va_up G B (some kD0)) q ∨ B + 1 ≤ q) := fun q h => Or.inl h
  have Ak : ∀ k q, dG (eGk cT B G k) q → (dG (va_up G B (some kD0)) q ∨ B + 1 ≤ q) := eGk_A A0 At Az
  have A2 : ∀ q, dG (eG2 cT B G) q → (dG (va_up G B (some kD0)) q ∨ B + 1 ≤ q) := dG_up (tG_A (Ak 8) (fun q h1 h2 => Az q (by omega))) At
  have A3 : ∀ q, dG (eG3 cT B G) q → (dG (va_up G B (some kD0)) q ∨ B + 1 ≤ q) := dG_up (tG_A A2 (fun q h1 h2 => Az q (by omega))) At
  have A4 : ∀ q, dG (eG4 cT B G) q → (dG (va_up G B (some kD0)) q ∨ B + 1 ≤ q) := dG_up (cG_A A3 (fun q h1 h2 => Az q (by omega))) At
  have tail : ∀ o1, J (eGk cT B G 8) (B + 34) 33 376 (eSk B S 8) 42 [some (.ref B), o1] [] := by
    intro o1
    have X := C.cx (sz := B + 34) (n1 := 33) (n2 := 376) (Ak 8) (by omega) (by omega)
    refine r_aload_n X d_Desk_init_42 (by rfl) ?_
    refine cn_new C (F := fun v => [.null, .null, .int v]) (x0 := 0) ln_Desk_9 (by omega) (by omega) d_Desk_init_43 ?_
    have A' := dG_up (a := B + 34) (x := some kT0) (Ak 8) (Az _ (by omega))
    have X := C.cx (sz := B + 34 + 1) (n1 := 33 + 1) (n2 := 376 + 3) A' (by omega) (by omega)
    refine r_dup X d_Desk_init_46 (by rfl) ?_
    refine r_bipush X (x := (nI 64)) d_Desk_init_47 (by decide) ?_
    refine cn_call C (As := [.int (nI 64)]) (rest := [.ref (B + 34), .ref B]) (b := B + 34) li_Desk_15 (n_term (t := B + 34) (n := 64) (G := eGk cT B G 8) (S := eSk B S 8) (by omega)) A' (fun q h => Az q (by omega)) (by decide) rfl (by omega) (by omega) (Nat.le_of_ble_eq_true rfl) d_Desk_init_49 rfl ?_
    have g1 : (tG (B + 34) 64 (eGk cT B G 8)) B = some (kObj iDesk (fun _ => [.ref (B + 1), .null, .null, .null, .null])) := by rw [tG_n (by omega), eGk_B]; rfl
    refine cn_putF C (F' := fun _ => [.ref (B + 1), .ref (B + 34), .null, .null, .null]) lg_Desk_18 d_Desk_init_52 g1 At (fun v => rfl) (fun v => Nat.le_of_ble_eq_true rfl) ?_
    show J (eG2 cT B G) (B + 38) 37 454 (tS (B + 34) (eSk B S 8)) 55 _ _
    have X := C.cx (sz := B + 38) (n1 := 37) (n2 := 454) A2 (by omega) (by omega)
    refine r_aload_n X d_Desk_init_55 (by rfl) ?_
    refine cn_new C (F := fun v => [.null, .null, .int v]) (x0 := 0) ln_Desk_9 (by omega) (by omega) d_Desk_init_56 ?_
    have A' := dG_up (a := B + 38) (x := some kT0) A2 (Az _ (by omega))
    have X := C.cx (sz := B + 38 + 1) (n1 := 37 + 1) (n2 := 454 + 3) A' (by omega) (by omega)
    refine r_dup X d_Desk_init_59 (by rfl) ?_
    refine r_bipush X (x := (nI 64)) d_Desk_init_60 (by decide) ?_
    refine cn_call C (As := [.int (nI 64)]) (rest := [.ref (B + 38), .ref B]) (b := B + 38) li_Desk_15 (n_term (t := B + 38) (n := 64) (G := eG2 cT B G) (S := tS (B + 34) (eSk B S 8)) (by omega)) A' (fun q h => Az q (by omega)) (by decide) rfl (by omega) (by omega) (Nat.le_of_ble_eq_true rfl) d_Desk_init_62 rfl ?_
    have g2 : (tG (B + 38) 64 (eG2 cT B G)) B = some (kObj iDesk (fun _ => [.ref (B + 1), .ref (B + 34), .null, .null, .null])) := by
      rw [tG_n (by omega)]
      unfold eG2
      rw [va_up_s]
      rfl
    refine cn_putF C (F' := fun _ => [.ref (B + 1), .ref (B + 34), .ref (B + 38), .null, .null]) lg_Desk_22 d_Desk_init_65 g2 At (fun v => rfl) (fun v => Nat.le_of_ble_eq_true rfl) ?_
    show J (eG3 cT B G) (B + 42) 41 532 (tS (B + 38) (tS (B + 34) (eSk B S 8))) 68 _ _
    have X := C.cx (sz := B + 42) (n1 := 41) (n2 := 532) A3 (by omega) (by omega)
    refine r_aload_n X d_Desk_init_68 (by rfl) ?_
    refine cn_new C (F := fun _ => [.null, .null]) (x0 := 0) ln_Desk_25 (by omega) (by omega) d_Desk_init_69 ?_
    have A' := dG_up (a := B + 42) (x := some kC0) A3 (Az _ (by omega))
    have X := C.cx (sz := B + 42 + 1) (n1 := 41 + 1) (n2 := 532 + 2) A' (by omega) (by omega)
    refine r_dup X d_Desk_init_72 (by rfl) ?_
    refine cn_call C (As := []) (rest := [.ref (B + 42), .ref B]) (b := B + 42) li_Desk_27 (n_comb (c := B + 42) (G := eG3 cT B G) (S := tS (B + 38) (tS (B + 34) (eSk B S 8)))) A' (fun q h => Az q (by omega)) (by decide) rfl (by omega) (by omega) (Nat.le_of_ble_eq_true rfl) d_Desk_init_73 rfl ?_
    have g3 : (cG (B + 42) (eG3 cT B G)) B = some (kObj iDesk (fun _ => [.ref (B + 1), .ref (B + 34), .ref (B + 38), .null, .null])) := by
      rw [cG_n (by omega)]
      unfold eG3
      rw [va_up_s]
      rfl
    refine cn_putF C (F' := fun _ => [.ref (B + 1), .ref (B + 34), .ref (B + 38), .ref (B + 42), .null]) lg_Desk_28 d_Desk_init_76 g3 At (fun v => rfl) (fun v => Nat.le_of_ble_eq_true rfl) ?_
    show J (eG4 cT B G) (B + 49) 48 678 (cS (B + 42) (tS (B + 38) (tS (B + 34) (eSk B S 8)))) 79 _ _
    have X := C.cx (sz := B + 49) (n1 := 48) (n2 := 678) A4 (by omega) (by omega)
    refine r_aload_n X d_Desk_init_79 (by rfl) ?_
    refine cn_new C (F := fun _ => [.null, .null, .null, .null, .null]) (x0 := 0) ln_Desk_32 (by omega) (by omega) d_Desk_init_80 ?_
    have A' := dG_up (a := B + 49) (x := some kS0) A4 (Az _ (by omega))
    have X := C.cx (sz := B + 49 + 1) (n1 := 48 + 1) (n2 := 678 + 5) A' (by omega) (by omega)
    refine r_dup X d_Desk_init_83 (by rfl) ?_
    refine cn_call C (As := []) (rest := [.ref (B + 49), .ref B]) (b := B + 49) li_Desk_34 (n_split (s := B + 49) (G := eG4 cT B G) (S := cS (B + 42) (tS (B + 38) (tS (B + 34) (eSk B S 8))))) A' (fun q h => Az q (by omega)) (by decide) rfl (by omega) (by omega) (Nat.le_of_ble_eq_true rfl) d_Desk_init_84 rfl ?_
    have g4 : (sG (B + 49) (eG4 cT B G)) B = some (kObj iDesk (fun _ => [.ref (B + 1), .ref (B + 34), .ref (B + 38), .ref (B + 42), .null])) := by
      rw [sG_n (by omega)]
      unfold eG4
      rw [va_up_s]
      rfl
    refine cn_putF C (F' := fun _ => [.ref (B + 1), .ref (B + 34), .ref (B + 38), .ref (B + 42), .ref (B + 49)]) lg_Desk_35 d_Desk_init_87 g4 At (fun v => rfl) (fun v => Nat.le_of_ble_eq_true rfl) ?_
    exact hR _ _ d_Desk_init_90
  have loop : ∀ j k sz n1 n2, k + j = 8 → sz = B + 2 + 4 * k → n1 = 1 + 4 * k → n2 = 8 + 46 * k → J (eGk cT B G k) sz n1 n2 (eSk B S k) 15 [some (.ref B), some (.int (nI k))] [] := by
    intro j
    induction j with
    | zero =>
      intro k sz n1 n2 hk hsz h1 h2
      have hk8 : k = 8 := by omega
      subst hk8
      have X := C.cx (sz := sz) (n1 := n1) (n2 := n2) (Ak 8) (by omega) (by omega)
      refine r_iload_n X d_Desk_init_15 (by rfl) ?_
      refine r_bipush X (x := (nI 8)) d_Desk_init_16 (by decide) ?_
      refine r_icmp_geN X d_Desk_init_18 (tgt := 42) (by decide) (by omega) (by omega) (fun hc => ?_) (fun hc => ?_)
      · rw [show sz = B + 34 by omega, show n1 = 33 by omega, show n2 = 376 by omega]
        exact tail _
      · omega
    | succ j ih =>
      intro k sz n1 n2 hk hsz h1 h2
      subst hsz
      have gB : eGk cT B G k B = some (kObj iDesk (fun _ => [.ref (B + 1), .null, .null, .null, .null])) := by rw [eGk_B]; rfl
      have X := C.cx (sz := B + 2 + 4 * k) (n1 := n1) (n2 := n2) (Ak k) (by omega) (by omega)
      refine r_iload_n X d_Desk_init_15 (by rfl) ?_
      refine r_bipush X (x := (nI 8)) d_Desk_init_16 (by decide) ?_
      refine r_icmp_geN X d_Desk_init_18 (tgt := 42) (by decide) (by omega) (by omega) (fun hc => ?_) (fun hc => ?_)
      · omega
      · refine r_aload_n X d_Desk_init_21 (by rfl) ?_
        refine r_get X lf_Desk_11 d_Desk_init_22 (by assumption) (by rfl) ?_
        refine r_iload_n X d_Desk_init_25 (by rfl) ?_
        refine cn_new C (F := fun v => [.null, .null, .int v]) (x0 := 0) ln_Desk_9 (by omega) (by omega) d_Desk_init_26 ?_
        have A' := dG_up (a := B + 2 + 4 * k) (x := some kT0) (Ak k) (Az _ (by omega))
        have X := C.cx (sz := B + 2 + 4 * k + 1) (n1 := n1 + 1) (n2 := n2 + 3) A' (by omega) (by omega)
        refine r_dup X d_Desk_init_29 (by rfl) ?_
        refine r_bipush X (x := (nI 32)) d_Desk_init_30 (by decide) ?_
        refine cn_call C (As := [.int (nI 32)]) (rest := [.ref (B + 2 + 4 * k), .int (nI k), .ref (B + 1)]) (b := B + 2 + 4 * k) li_Desk_15 (n_term (t := B + 2 + 4 * k) (n := 32) (G := eGk cT B G k) (S := eSk B S k) (by omega)) A' (fun q h => Az q (by omega)) (by decide) rfl (by omega) (by omega) (Nat.le_of_ble_eq_true rfl) d_Desk_init_32 rfl ?_
        have g2 : (tG (B + 2 + 4 * k) 32 (eGk cT B G k)) (B + 1) = some (kFix (.inl (cT, 8, .inr (.inr (.inr (.inr (slk B k))))))) := by rw [tG_n (by omega), eGk_S]; rfl
        have g3 : (tG (B + 2 + 4 * k) 32 (eGk cT B G k)) (B + 2 + 4 * k) = some (kObj iTerm (fun v => [.ref (B + 2 + 4 * k + 1), .ref (B + 2 + 4 * k + 3), .int v])) := (tG_is (t := B + 2 + 4 * k) (n := 32) (by omega) (by omega)).1
        refine cn_astq C (C := "TelescopeDesk$Term") (T := F_Term) (N := 3) rfl rfl d_Desk_init_35 g2 g3 (Az _ (by omega)) (by omega) (by omega) ?_
        have X := C.cx (sz := B + 2 + 4 * k + 1 + 3) (n1 := n1 + 1 + 3) (n2 := n2 + 3 + (2 + (0 + 32) + 9)) (Ak (k + 1)) (by omega) (by omega)
        show J (eGk cT B G (k + 1)) _ _ _ (eSk B S (k + 1)) 36 _ _
        refine r_iincN X 1 d_Desk_init_36 (by rfl) (by decide) (by decide) ?_
        refine r_goto X d_Desk_init_39 (tgt := 15) (by decide) ?_
        exact ih (k + 1) _ _ _ (by omega) (by omega) (by omega) (by omega)
  have X := C.cx (sz := B + 1) (n1 := 0) (n2 := 0) A0 (by omega) (by omega)
  refine r_aload_n X d_Desk_init_0 (by rfl) ?_
  refine r_objInit X w16 w17 w18 (by decide) rfl d_Desk_init_1 ?_
  refine r_aload_n X d_Desk_init_4 (by rfl) ?_
  refine r_bipush X (x := (nI 8)) d_Desk_init_5 (by decide) ?_
  refine cno_newq Co (n := 8) (cT := cT) w19 rfl (by omega) (by omega) (by omega) d_Desk_init_7 ?_
  have g0 : (va_up (va_up G B (some kD0)) (B + 1) (some (kSl cT (fun _ => none)))) B = some (kObj iDesk (fun _ => [.null, .null, .null, .null, .null])) := by rw [va_up_n (by omega), va_up_s]; rfl
  refine cn_putF C (F' := fun _ => [.ref (B + 1), .null, .null, .null, .null]) lg_Desk_11 d_Desk_init_10 g0 At (fun v => rfl) (fun v => Nat.le_of_ble_eq_true rfl) ?_
  show J (eGk cT B G 0) (B + 2) 1 8 (eSk B S 0) 13 _ _
  have X := C.cx (sz := B + 2) (n1 := 1) (n2 := 8) (Ak 0) (by omega) (by omega)
  refine r_iconst X (x := (nI 0)) d_Desk_init_13 (by decide) ?_
  refine r_istore_n X d_Desk_init_14 (by decide) ?_
  exact loop 8 0 _ _ _ (by omega) (by omega) (by omega) (by omega)
set_option maxHeartbeats 8000000 in
set_option maxRecDepth 100000 in
theorem n_model {m : Nat} : CN (mkE l D cI cT) (mG0 m G) y_Model_init b_Model_init 2 1 9 746 [.ref m] (mS0 m S) (m + 1) (mG9 m G) (mSf m S) := by
  refine mk_n (by decide) rfl (eok l D cI cT) (by simp [Value.category]) (Nat.le_of_ble_eq_true rfl) (fun J C hR => ?_)
  show J (mG0 m G) (m + 1) 0 0 (mS0 m S) 0 [some (.ref m), none] []
  have At : dG (mG0 m G) m ∨ m + 1 ≤ m := Or.inl dG_s
  have Az : ∀ q, m + 1 ≤ q → (dG (mG0 m G) q ∨ m + 1 ≤ q) := fun q h => Or.inr h
  have A0 : ∀ q, dG (mG0 m G) q → (dG (mG0 m G) q ∨ m + 1 ≤ q) := fun q h => Or.inl h
  have A1 : ∀ q, dG (mG1 m G) q → (dG (mG0 m G) q ∨ m + 1 ≤ q) := dG_up (dG_up A0 (Az _ (by omega))) At
  have A2 : ∀ q, dG (mG2 m G) q → (dG (mG0 m G) q ∨ m + 1 ≤ q) := dG_up (dG_up A1 (Az _ (by omega))) At
  have A3 : ∀ q, dG (mG3 m G) q → (dG (mG0 m G) q ∨ m + 1 ≤ q) := dG_up (dG_up A2 (Az _ (by omega))) At
  have A4 : ∀ q, dG (mG4 m G) q → (dG (mG0 m G) q ∨ m + 1 ≤ q) := dG_up (dG_up A3 (Az _ (by omega))) At
  have A5 : ∀ q, dG (mG5 m G) q → (dG (mG0 m G) q ∨ m + 1 ≤ q) := dG_up (dG_up A4 (Az _ (by omega))) At
  have A6 : ∀ q, dG (mG6 m G) q → (dG (mG0 m G) q ∨ m + 1 ≤ q) := dG_up (dG_up A5 (Az _ (by omega))) At
  have A7 : ∀ q, dG (mG7 m G) q → (dG (mG0 m G) q ∨ m + 1 ≤ q) := dG_up (dG_up A6 (Az _ (by omega))) At
  have A8 : ∀ q, dG (mG8 m G) q → (dG (mG0 m G) q ∨ m + 1 ≤ q) := dG_up (dG_up A7 (Az _ (by omega))) At
  have A9 : ∀ q, dG (mG9 m G) q → (dG (mG0 m G) q ∨ m + 1 ≤ q) := dG_up (dG_up A8 (Az _ (by omega))) At
  have hra : mG9 m G (m + 3) = some (kArr 8) := mG_is.2.2.2.1
  have gM : mG9 m G m = some (kObj iModel (fun v => [.ref (m + 1), .ref (m + 2), .ref (m + 3), .ref (m + 4), .ref (m + 5), .int v, .ref (m + 6), .ref (m + 7), .ref (m + 8), .ref (m + 9)])) := mG_is.1
  have loop : ∀ j k S1, k + j = 8 → S1 = arS (mS9 m S) (m + 3) (fun i => if i < k then 1 else 0) → J (mG9 m G) (m + 10) 9 746 S1 80 [some (.ref m), some (.int (nI k))] [] := by
    intro j
    induction j with
    | zero =>
      intro k S1 hk hS
      have hk8 : k = 8 := by omega
      subst hk8
      have X := C.cx (sz := m + 10) (n1 := 9) (n2 := 746) A9 (by omega) (by omega)
      refine r_iload_n X d_Model_init_80 (by rfl) ?_
      refine r_bipush X (x := (nI 8)) d_Model_init_81 (by decide) ?_
      refine r_icmp_geN X d_Model_init_83 (tgt := 99) (by decide) (by omega) (by omega) (fun hc => ?_) (fun hc => ?_)
      · rw [hS]
        exact hR _ _ d_Model_init_99
      · omega
    | succ j ih =>
      intro k S1 hk hS
      have X := C.cx (sz := m + 10) (n1 := 9) (n2 := 746) A9 (by omega) (by omega)
      refine r_iload_n X d_Model_init_80 (by rfl) ?_
      refine r_bipush X (x := (nI 8)) d_Model_init_81 (by decide) ?_
      refine r_icmp_geN X d_Model_init_83 (tgt := 99) (by decide) (by omega) (by omega) (fun hc => ?_) (fun hc => ?_)
      · omega
      · refine r_aload_n X d_Model_init_86 (by rfl) ?_
        refine r_get X lf_Model_16 d_Model_init_87 (by assumption) (by rfl) ?_
        refine r_iload_n X d_Model_init_90 (by rfl) ?_
        refine r_iconst X (x := (nI 1)) d_Model_init_91 (by decide) ?_
        refine r_iast X d_Model_init_92 (by assumption) (by omega) (by omega) ?_
        refine r_iincN X 1 d_Model_init_93 (by rfl) (by decide) (by decide) ?_
        refine r_goto X d_Model_init_96 (tgt := 80) (by decide) ?_
        refine ih (k + 1) _ (by omega) ?_
        rw [hS, arS_arS, arS_1, up_lt (fun _ => 1) (fun _ => 0) k]
  have X := C.cx (sz := m + 1) (n1 := 0) (n2 := 0) A0 (by omega) (by omega)
  refine r_aload_n X d_Model_init_0 (by rfl) ?_
  refine r_objInit X w410 w17 w18 (by decide) rfl d_Model_init_1 ?_
  refine r_aload_n X d_Model_init_4 (by rfl) ?_
  refine r_sipush X (x := (nI 256)) d_Model_init_5 (by decide) ?_
  refine cn_newa C (n := 256) w44 (by omega) (by omega) (by omega) d_Model_init_8 ?_
  have g0 : (va_up (mG0 m G) (m + 1) (some (kArr 256))) m = some (kObj iModel (fun v => [.null, .null, .null, .null, .null, .int v, .null, .null, .null, .null])) := by
    rw [va_up_n (by omega)]
    unfold mG0
    rw [va_up_s]
    rfl
  refine cn_putF C (F' := fun v => [.ref (m + 1), .null, .null, .null, .null, .int v, .null, .null, .null, .null]) lg_Model_7 d_Model_init_10 g0 At (fun v => rfl) (fun v => Nat.le_of_ble_eq_true rfl) ?_
  show J (mG1 m G) (m + 2) 1 256 (mS1 m S) 13 _ _
  have X := C.cx (sz := m + 2) (n1 := 1) (n2 := 256) A1 (by omega) (by omega)
  refine r_aload_n X d_Model_init_13 (by rfl) ?_
  refine r_bipush X (x := (nI 64)) d_Model_init_14 (by decide) ?_
  refine cn_newa C (n := 64) w44 (by omega) (by omega) (by omega) d_Model_init_16 ?_
  have g1 : (va_up (mG1 m G) (m + 2) (some (kArr 64))) m = some (kObj iModel (fun v => [.ref (m + 1), .null, .null, .null, .null, .int v, .null, .null, .null, .null])) := by
    rw [va_up_n (by omega)]
    unfold mG1
    rw [va_up_s]
    rfl
  refine cn_putF C (F' := fun v => [.ref (m + 1), .ref (m + 2), .null, .null, .null, .int v, .null, .null, .null, .null]) lg_Model_13 d_Model_init_18 g1 At (fun v => rfl) (fun v => Nat.le_of_ble_eq_true rfl) ?_
  show J (mG2 m G) (m + 3) 2 320 (mS2 m S) 21 _ _
  have X := C.cx (sz := m + 3) (n1 := 2) (n2 := 320) A2 (by omega) (by omega)
  refine r_aload_n X d_Model_init_21 (by rfl) ?_
  refine r_bipush X (x := (nI 8)) d_Model_init_22 (by decide) ?_
  refine cn_newa C (n := 8) w44 (by omega) (by omega) (by omega) d_Model_init_24 ?_
  have g2 : (va_up (mG2 m G) (m + 3) (some (kArr 8))) m = some (kObj iModel (fun v => [.ref (m + 1), .ref (m + 2), .null, .null, .null, .int v, .null, .null, .null, .null])) := by
    rw [va_up_n (by omega)]
    unfold mG2
    rw [va_up_s]
    rfl
  refine cn_putF C (F' := fun v => [.ref (m + 1), .ref (m + 2), .ref (m + 3), .null, .null, .int v, .null, .null, .null, .null]) lg_Model_16 d_Model_init_26 g2 At (fun v => rfl) (fun v => Nat.le_of_ble_eq_true rfl) ?_
  show J (mG3 m G) (m + 4) 3 328 (mS3 m S) 29 _ _
  have X := C.cx (sz := m + 4) (n1 := 3) (n2 := 328) A3 (by omega) (by omega)
  refine r_aload_n X d_Model_init_29 (by rfl) ?_
  refine r_sipush X (x := (nI 320)) d_Model_init_30 (by decide) ?_
  refine cn_newa C (n := 320) w44 (by omega) (by omega) (by omega) d_Model_init_33 ?_
  have g3 : (va_up (mG3 m G) (m + 4) (some (kArr 320))) m = some (kObj iModel (fun v => [.ref (m + 1), .ref (m + 2), .ref (m + 3), .null, .null, .int v, .null, .null, .null, .null])) := by
    rw [va_up_n (by omega)]
    unfold mG3
    rw [va_up_s]
    rfl
  refine cn_putF C (F' := fun v => [.ref (m + 1), .ref (m + 2), .ref (m + 3), .ref (m + 4), .null, .int v, .null, .null, .null, .null]) lg_Model_19 d_Model_init_35 g3 At (fun v => rfl) (fun v => Nat.le_of_ble_eq_true rfl) ?_
  show J (mG4 m G) (m + 5) 4 648 (mS4 m S) 38 _ _
  have X := C.cx (sz := m + 5) (n1 := 4) (n2 := 648) A4 (by omega) (by omega)
  refine r_aload_n X d_Model_init_38 (by rfl) ?_
  refine r_bipush X (x := (nI 9)) d_Model_init_39 (by decide) ?_
  refine cn_newa C (n := 9) w44 (by omega) (by omega) (by omega) d_Model_init_41 ?_
  have g4 : (va_up (mG4 m G) (m + 5) (some (kArr 9))) m = some (kObj iModel (fun v => [.ref (m + 1), .ref (m + 2), .ref (m + 3), .ref (m + 4), .null, .int v, .null, .null, .null, .null])) := by
    rw [va_up_n (by omega)]
    unfold mG4
    rw [va_up_s]
    rfl
  refine cn_putF C (F' := fun v => [.ref (m + 1), .ref (m + 2), .ref (m + 3), .ref (m + 4), .ref (m + 5), .int v, .null, .null, .null, .null]) lg_Model_22 d_Model_init_43 g4 At (fun v => rfl) (fun v => Nat.le_of_ble_eq_true rfl) ?_
  show J (mG5 m G) (m + 6) 5 657 (mS5 m S) 46 _ _
  have X := C.cx (sz := m + 6) (n1 := 5) (n2 := 657) A5 (by omega) (by omega)
  refine r_aload_n X d_Model_init_46 (by rfl) ?_
  refine r_bipush X (x := (nI 24)) d_Model_init_47 (by decide) ?_
  refine cn_newa C (n := 24) w44 (by omega) (by omega) (by omega) d_Model_init_49 ?_
  have g5 : (va_up (mG5 m G) (m + 6) (some (kArr 24))) m = some (kObj iModel (fun v => [.ref (m + 1), .ref (m + 2), .ref (m + 3), .ref (m + 4), .ref (m + 5), .int v, .null, .null, .null, .null])) := by
    rw [va_up_n (by omega)]
    unfold mG5
    rw [va_up_s]
    rfl
  refine cn_putF C (F' := fun v => [.ref (m + 1), .ref (m + 2), .ref (m + 3), .ref (m + 4), .ref (m + 5), .int v, .ref (m + 6), .null, .null, .null]) lg_Model_25 d_Model_init_51 g5 At (fun v => rfl) (fun v => Nat.le_of_ble_eq_true rfl) ?_
  show J (mG6 m G) (m + 7) 6 681 (mS6 m S) 54 _ _
  have X := C.cx (sz := m + 7) (n1 := 6) (n2 := 681) A6 (by omega) (by omega)
  refine r_aload_n X d_Model_init_54 (by rfl) ?_
  refine r_bipush X (x := (nI 24)) d_Model_init_55 (by decide) ?_
  refine cn_newa C (n := 24) w44 (by omega) (by omega) (by omega) d_Model_init_57 ?_
  have g6 : (va_up (mG6 m G) (m + 7) (some (kArr 24))) m = some (kObj iModel (fun v => [.ref (m + 1), .ref (m + 2), .ref (m + 3), .ref (m + 4), .ref (m + 5), .int v, .ref (m + 6), .null, .null, .null])) := by
    rw [va_up_n (by omega)]
    unfold mG6
    rw [va_up_s]
    rfl
  refine cn_putF C (F' := fun v => [.ref (m + 1), .ref (m + 2), .ref (m + 3), .ref (m + 4), .ref (m + 5), .int v, .ref (m + 6), .ref (m + 7), .null, .null]) lg_Model_28 d_Model_init_59 g6 At (fun v => rfl) (fun v => Nat.le_of_ble_eq_true rfl) ?_
  show J (mG7 m G) (m + 8) 7 705 (mS7 m S) 62 _ _
  have X := C.cx (sz := m + 8) (n1 := 7) (n2 := 705) A7 (by omega) (by omega)
  refine r_aload_n X d_Model_init_62 (by rfl) ?_
  refine r_bipush X (x := (nI 8)) d_Model_init_63 (by decide) ?_
  refine cn_newa C (n := 8) w44 (by omega) (by omega) (by omega) d_Model_init_65 ?_
  have g7 : (va_up (mG7 m G) (m + 8) (some (kArr 8))) m = some (kObj iModel (fun v => [.ref (m + 1), .ref (m + 2), .ref (m + 3), .ref (m + 4), .ref (m + 5), .int v, .ref (m + 6), .ref (m + 7), .null, .null])) := by
    rw [va_up_n (by omega)]
    unfold mG7
    rw [va_up_s]
    rfl
  refine cn_putF C (F' := fun v => [.ref (m + 1), .ref (m + 2), .ref (m + 3), .ref (m + 4), .ref (m + 5), .int v, .ref (m + 6), .ref (m + 7), .ref (m + 8), .null]) lg_Model_31 d_Model_init_67 g7 At (fun v => rfl) (fun v => Nat.le_of_ble_eq_true rfl) ?_
  show J (mG8 m G) (m + 9) 8 713 (mS8 m S) 70 _ _
  have X := C.cx (sz := m + 9) (n1 := 8) (n2 := 713) A8 (by omega) (by omega)
  refine r_aload_n X d_Model_init_70 (by rfl) ?_
  refine r_bipush X (x := (nI 33)) d_Model_init_71 (by decide) ?_
  refine cn_newa C (n := 33) w44 (by omega) (by omega) (by omega) d_Model_init_73 ?_
  have g8 : (va_up (mG8 m G) (m + 9) (some (kArr 33))) m = some (kObj iModel (fun v => [.ref (m + 1), .ref (m + 2), .ref (m + 3), .ref (m + 4), .ref (m + 5), .int v, .ref (m + 6), .ref (m + 7), .ref (m + 8), .null])) := by
    rw [va_up_n (by omega)]
    unfold mG8
    rw [va_up_s]
    rfl
  refine cn_putF C (F' := fun v => [.ref (m + 1), .ref (m + 2), .ref (m + 3), .ref (m + 4), .ref (m + 5), .int v, .ref (m + 6), .ref (m + 7), .ref (m + 8), .ref (m + 9)]) lg_Model_34 d_Model_init_75 g8 At (fun v => rfl) (fun v => Nat.le_of_ble_eq_true rfl) ?_
  show J (mG9 m G) (m + 10) 9 746 (mS9 m S) 78 _ _
  have X := C.cx (sz := m + 10) (n1 := 9) (n2 := 746) A9 (by omega) (by omega)
  refine r_iconst X (x := (nI 0)) d_Model_init_78 (by decide) ?_
  refine r_istore_n X d_Model_init_79 (by decide) ?_
  refine loop 8 0 _ (by omega) ?_
  have h : (fun i => if i < 0 then 1 else 0) = (mS9 m S).1 (m + 3) := by
    rw [mS_3]
    funext i
    rw [if_neg (by omega)]
  rw [h, arS_id]
end CN2
