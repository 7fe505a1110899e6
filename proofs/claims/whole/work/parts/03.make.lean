def Cn (E : Ev) (own : String) (cc : ByteArray) (nL k c1 c2 : Nat) (mn : String) (A : Nat → Prop) (J : Gm → Nat → Nat → Nat → Jt) : Prop :=
  ∃ (p : Program) (e : Env) (R : Room) (s : State) (m : MethodId) (args : Array Value) (below : List Frame) (meth : Method) (c : Code) (Q : State → Prop),
    (p.tables.exec = Jvm.exec ∧ c.code = cc ∧ c.maxLocals = nL ∧ s.vm.findClass own = some m.cls ∧ (∀ w ∈ eW E, w.before args s = true)) ∧ va_K (eD E) (eC E) (eT E) s ∧ (∀ w ∈ eN E, va_Nw w s) ∧ (k ≤ R.frames ∧ 40 * k ≤ R.locals ∧ c1 ≤ R.cells ∧ c2 ≤ R.slots) ∧ eOK E ∧ (∀ q, s.heap.size ≤ q → A q) ∧ meth.name = mn ∧
    J = fun G sz n1 n2 => jw p e R s m args below meth c E G A sz n1 n2 nL Q
section MK
variable {E : Ev} {own : String} {cc : ByteArray} {nL k c1 c2 : Nat} {mn : String} {A : Nat → Prop} {J : Gm → Nat → Nat → Nat → Jt} {G : Gm} {S : Sg} {sz n1 n2 pc : Nat} {L : List (Option Value)} {st : List Value}
theorem Cn.cx (X : Cn E own cc nL k c1 c2 mn A J) (hG : ∀ q, dG G q → A q) (h1 : n1 ≤ c1) (h2 : n2 ≤ c2) : Cx E G own cc nL k (J G sz n1 n2) := by
  obtain ⟨p, e, R, s, m, args, below, meth, c, Q, hF, hK, hN, hR, hE, hA, hmn, rfl⟩ := X
  exact ⟨p, e, R, s, m, args, below, meth, c, A, sz, n1, n2, Q, hF, hK, hN, ⟨hR.1, hR.2.1, Nat.le_trans h1 hR.2.2.1, Nat.le_trans h2 hR.2.2.2⟩, hE, hG, rfl⟩
theorem wP.lt {H : Heap} (hP : wP E G S H) {a : Nat} (h : G a ≠ none) : a < H.size := by
  cases hg : G a with
  | none => exact absurd hg h
  | some kd =>
    rcases kd with n | o | e
    · exact (hP a _ (wl_arr hg)).lt
    · exact (hP a _ (wl_obj (ci := o.1) (F := o.2) hg)).lt
    · exact (hP a _ (wl_fix hg)).lt
theorem wP.grow {H H1 : Heap} {kd : Kd} {S1 : Sg} (hP : wP E G S H) (o1 : ∀ q, q < H.size → H1[q]? = H[q]?) (hs : ∀ a, a ≠ H.size → S1.1 a = S.1 a ∧ S1.2 a = S.2 a) (he : ∀ e, wl (eI E) (va_up G H.size (some kd)) S1 H.size = some e → va_at (eD E) (eC E) (H.size, e) H1) : wP E (va_up G H.size (some kd)) S1 H1 := by
  intro a e h
  by_cases ha : a = H.size
  · subst ha
    exact he e h
  · have e1 : wl (eI E) (va_up G H.size (some kd)) S1 a = wl (eI E) G S a := by
      unfold wl
      rw [va_up_n ha, (hs a ha).1, (hs a ha).2]
    rw [e1] at h
    exact (hP a e h).kept (o1 a (hP a e h).lt)
def lkN (W : List Cond) (cl : List vw_C) (own : String) (idx ci N : Nat) (fs : List Value) : Prop := ∃ (C : String) (T : u_T) (ty : Nat → FieldType), cl[ci]? = some (C, T, N) ∧ (∀ w ∈ u_ws C T N, w ∈ W) ∧ (∀ j, j < N → parseFieldDescriptor (T j).2.2.1 = some (ty j)) ∧ Cond.classLink own idx C ∈ W ∧ Cond.instantiable C N ∈ W ∧ Cond.initialized C ∈ W ∧ ∀ j, j < N → defaultValue (ty j) = vp_V fs j
theorem cn_new (X : Cn E own cc nL k c1 c2 mn A J) {idx ci N : Nat} {F : Int32 → List Value} {x0 : Int32} (hl : lkN (eW E) (eC E) own idx ci N (F x0)) (h1 : n1 + 1 ≤ c1) (h2 : n2 + N ≤ c2) (d : decode cc pc = .ok (.new idx, 3))
    (kk : J (va_up G sz (some (kObj ci F))) (sz + 1) (n1 + 1) (n2 + N) (fdS S sz x0) (pc + 3) L (.ref sz :: st)) : J G sz n1 n2 S pc L st := by
  obtain ⟨p, e, R, s, m, args, below, meth, c, Q, ⟨hx, hb, hml, hown, hts⟩, hK, hN, hR, hE, hA, hmn, rfl⟩ := X
  obtain ⟨C, T, ty, hc, hin, hty, w1, w2, w3, hfs⟩ := hl
  intro H locs ls hP hz hS hll
  subst hz
  have hKn := hK.1 ci _ hc
  refine W.newcK hx hb hown (hts _ w1) (hts _ w2) (hts _ w3) rfl d (Nat.le_trans h1 hR.2.2.1) (Nat.le_trans h2 hR.2.2.2) hKn.2.1 rfl fun H1 kC hkC e1 z1 o1 => ?_
  refine kk H1 locs ls (hP.grow o1 (fun a ha => ⟨rfl, fdS_2n ha⟩) (fun e' he => ?_)) z1 ⟨Nat.le_trans hS.1 (by omega), fun x g1 g2 => (o1 x (Nat.lt_of_lt_of_le g1 hS.1)).trans (hS.2.1 x g1 g2), hS.2.2⟩ hll
  rw [wl_obj (va_up_s _ _ _)] at he
  cases he
  rw [fdS_2]
  exact ⟨_, hc, (u_born ty hts hin hKn hkC e1 hty).to hfs⟩
theorem cn_newa (X : Cn E own cc nL k c1 c2 mn A J) {n : Nat} (hw : Cond.arrayClass (newarray.typeOf .int) ∈ eW E) (hn : n ≤ 100000) (h1 : n1 + 1 ≤ c1) (h2 : n2 + n ≤ c2) (d : decode cc pc = .ok (.newarray .int, 2))
    (kk : J (va_up G sz (some (kArr n))) (sz + 1) (n1 + 1) (n2 + n) (arS S sz (fun _ => 0)) (pc + 2) L (.ref sz :: st)) : J G sz n1 n2 S pc L (.int (nI n) :: st) := by
  obtain ⟨p, e, R, s, m, args, below, meth, c, Q, ⟨hx, hb, hml, hown, hts⟩, hK, hN, hR, hE, hA, hmn, rfl⟩ := X
  intro H locs ls hP hz hS hll
  subst hz
  refine va_newaK hx hb (hts _ hw) rfl d rfl (nI_pos (by omega)) (nI_clamp (by omega)) (by show n * 4 ≤ _; omega) (Nat.le_trans h1 hR.2.2.1) (Nat.le_trans h2 hR.2.2.2) rfl fun H1 cA e1 z1 o1 hAr hNm => ?_
  have hcA : cA = eI E := by
    have h3 : s.vm.findClass ("[" ++ FieldType.int.toString) = some (eI E) := (hK.2 0 _ hE.2.2).2
    exact Option.some.inj (hNm.symm.trans h3)
  subst hcA
  refine kk H1 locs ls (hP.grow o1 (fun a ha => ⟨arS_1n ha, rfl⟩) (fun e' he => ?_)) z1 ⟨Nat.le_trans hS.1 (by omega), fun x g1 g2 => (o1 x (Nat.lt_of_lt_of_le g1 hS.1)).trans (hS.2.1 x g1 g2), hS.2.2⟩ hll
  rw [wl_arr (va_up_s _ _ _)] at he
  cases he
  rw [arS_1]
  exact e1
def lkG (W : List Cond) (cl : List vw_C) (own : String) (idx ci kf : Nat) : Prop := ∃ (T : u_T) (N : Nat) (ty : Nat → FieldType), cl[ci]? = some (own, T, N) ∧ kf < N ∧ (∀ w ∈ u_ws own T N, w ∈ W) ∧ Cond.fieldLink own idx (T kf).1 (T kf).2.1 (T kf).2.2.1 ∈ W ∧ (∀ j, j < N → parseFieldDescriptor (T j).2.2.1 = some (ty j)) ∧ (∀ a, a < N → ∀ b, b < N → a ≠ b → (T a).2.1 ≠ (T b).2.1) ∧ (T kf).2.2.2 = true ∧ (T kf).1 = own ∧ ∀ q : Nat, narrow (ty kf) (.ref q) = .ref q ∧ fits (ty kf) (.ref q) = true
theorem wP.kind {H H1 : Heap} {kd : Kd} {a : Nat} (hP : wP E G S H) (o1 : ∀ q, q ≠ a → H1[q]? = H[q]?) (he : ∀ e, wl (eI E) (va_up G a (some kd)) S a = some e → va_at (eD E) (eC E) (a, e) H1) : wP E (va_up G a (some kd)) S H1 := by
  intro b e h
  by_cases hb : b = a
  · subst hb
    exact he e h
  · have e1 : wl (eI E) (va_up G a (some kd)) S b = wl (eI E) G S b := by
      unfold wl
      rw [va_up_n hb]
    rw [e1] at h
    exact (hP b e h).kept (o1 b hb)
theorem cn_putF (X : Cn E own cc nL k c1 c2 "<init>" A J) {idx ci kf a q : Nat} {F F' : Int32 → List Value} (hf : lkG (eW E) (eC E) own idx ci kf) (d : decode cc pc = .ok (.putfield idx, 3)) (hG : G a = some (kObj ci F)) (hAa : A a) (hs : ∀ v, (F v).set kf (.ref q) = F' v) (hl : ∀ v, kf < (F v).length)
    (kk : J (va_up G a (some (kObj ci F'))) sz n1 n2 S (pc + 3) L st) : J G sz n1 n2 S pc L (.ref q :: .ref a :: st) := by
  obtain ⟨p, e, R, s, m, args, below, meth, c, Q, ⟨hx, hb, hml, hown, hts⟩, hK, hN, hR, hE, hA, hmn, rfl⟩ := X
  obtain ⟨T, N, ty, hc, hk, hin, hlk, hty, hnm, hfin, hdecl, hfit⟩ := hf
  intro H locs ls hP hz hS hll
  have hap := va_apart (own := own) hts hin ty hty hnm hK hc
  obtain ⟨r, g1, cell, q1, q2, q3, q4⟩ := hP a _ (wl_obj hG)
  have hr : r = (own, T, N) := Option.some.inj (g1.symm.trans hc)
  subst hr
  obtain ⟨hSl, hfc, kC, hkC, hkind⟩ := hK.1 ci _ hc
  obtain ⟨cf, kf', fi, f, hi, hsl⟩ := hSl kf hk
  have hlay := hts _ (hin _ (u_in_lay hk))
  unfold u_lay at hlay
  rw [if_pos hfin] at hlay
  have hst := (u_facts hfc hkC (u_lays hts hin hk) hi).1
  have hcf : m.cls = cf := by
    obtain ⟨_, _, c', _, _, _, -, -, hf', -, -, -, hown2, -⟩ := Cond.laysFinal_spec hlay
    have e1 : c' = cf := by have := hi.symm.trans hf'; simp at this; exact this.1.symm
    rw [hdecl] at hown2
    rw [← e1]; exact Option.some.inj (hown.symm.trans hown2)
  have h6 := u_fits hfc hkC hkind (Or.inr hlay) hi (hty kf hk) (hfit q).1 (hfit q).2
  refine W.putFinK hx hb hown (hts _ hlk) hi hst hcf hmn (by rw [q2]; exact h6) q1 q3 (by rw [hsl]; exact k2_hasslot (q4 kf hk)) rfl rfl d fun H' e1 e2 e3 => ?_
  rw [hsl] at e1 ⊢
  refine kk H' _ ls (hP.kind e3 (fun e' he => ?_)) (e2.trans hz) (hS.put e2 e3 hAa) hll
  rw [wl_obj (va_up_s _ _ _)] at he
  cases he
  exact ⟨_, hc, t_OB.to (V := updV (vp_V (F (S.2 a))) kf (.ref q)) ⟨_, e1, q2, q3, t_set q4 hap hk _⟩ (fun j _ => by rw [vp_updV_set (hl _), hs])⟩
theorem cn_newq (X : Cn E own cc nL k c1 c2 mn A J) {idx n : Nat} {C : String} {cT : ClassId} (hw : Cond.classLink own idx C ∈ eW E) (hv : Cond.arrayOver (.object C) ∈ eW E) (hT : (eT E)[1]? = some (cT, .object C)) (hn : n ≤ 100000) (h1 : n1 + 1 ≤ c1) (h2 : n2 + n ≤ c2) (d : decode cc pc = .ok (.anewarray idx, 3))
    (kk : J (va_up G sz (some (kFix (.inl (cT, n, .inr (.inr (.inr (.inr (fun _ => none))))))))) (sz + 1) (n1 + 1) (n2 + n) S (pc + 3) L (.ref sz :: st)) : J G sz n1 n2 S pc L (.int (nI n) :: st) := by
  obtain ⟨p, e, R, s, m, args, below, meth, c, Q, ⟨hx, hb, hml, hown, hts⟩, hK, hN, hR, hE, hA, hmn, rfl⟩ := X
  intro H locs ls hP hz hS hll
  subst hz
  have kn : (nI n).toNatClampNeg = n := nI_clamp (by omega)
  refine W.anew hx hb hown (hts _ hw) (hts _ hv) rfl d rfl (nI_pos (by omega)) (by rw [kn]; omega) (Nat.le_trans h1 hR.2.2.1) (by rw [kn]; exact Nat.le_trans h2 hR.2.2.2) fun cA kA comp f1 f2 f3 f4 => ?_
  rw [kn]
  obtain ⟨kB, compB, g1, g2, g3, g4⟩ := (hK.2 1 _ hT).2
  have hcA : cA = cT := Option.some.inj (f1.symm.trans g4)
  subst hcA
  refine kk _ locs ls (hP.grow (fun q hq => by rw [Array.getElem?_push, if_neg (Nat.ne_of_lt hq)]) (fun a ha => ⟨rfl, rfl⟩) (fun e' he => ?_)) (by rw [Array.size_push]) ⟨Nat.le_trans hS.1 (by rw [Array.size_push]; omega), fun x g1 g2 => by rw [Array.getElem?_push, if_neg (Nat.ne_of_lt (Nat.lt_of_lt_of_le g1 hS.1))]; exact hS.2.1 x g1 g2, hS.2.2⟩ hll
  rw [wl_fix (va_up_s _ _ _)] at he
  cases he
  show (H.push _)[H.size]? = some (vp_cell _ _)
  rw [Array.getElem?_push_size, vp_cell_q, ← arrV_new]
  rfl
theorem cn_astq (X : Cn E own cc nL k c1 c2 mn A J) {a v ci n j : Nat} {C : String} {T : u_T} {N : Nat} {F : Int32 → List Value} {f : Nat → Option Nat} {cT : ClassId} (hT : (eT E)[1]? = some (cT, .object C)) (hc : (eC E)[ci]? = some (C, T, N)) (d : decode cc pc = .ok (.aastore, 1)) (hG : G a = some (kFix (.inl (cT, n, .inr (.inr (.inr (.inr f))))))) (hv : G v = some (kObj ci F)) (hAa : A a) (hj : j < n) (hn : n < 2 ^ 31)
    (kk : J (va_up G a (some (kFix (.inl (cT, n, .inr (.inr (.inr (.inr (va_up f j (some v)))))))))) sz n1 n2 S (pc + 1) L st) : J G sz n1 n2 S pc L (.ref v :: .int (nI j) :: .ref a :: st) := by
  obtain ⟨p, e, R, s, m, args, below, meth, c, Q, ⟨hx, hb, hml, hown, hts⟩, hK, hN, hR, hE, hA, hmn, rfl⟩ := X
  intro H locs ls hP hz hS hll
  have hca := hP a _ (wl_fix hG)
  obtain ⟨r', hr', cellV, g1, g2, g3, -⟩ := hP v _ (wl_obj hv)
  have hcls := (hK.1 ci _ hc).2
  obtain ⟨kA, comp, k1, k2, k3, -⟩ := (hK.2 1 _ hT).2
  have hcomp : comp = (eD E).1 ci := Option.some.inj (k3.symm.trans hcls.1)
  subst hcomp
  obtain ⟨kC, hkC, -⟩ := hcls.2
  have kj : (nI j).toNatClampNeg = j := nI_clamp (by omega)
  refine W.aast hx hb hca (fun q h => by cases h) (fun h => by cases h) k1 k2 rfl hkC ⟨nI_pos (by omega), by show _ < (arrV _ _ _).slots.size; rw [arrV_size, kj]; exact hj⟩ g1 (fun q h => by rw [g3] at h; cases h) (by rw [g2]; exact hkC) (by rw [g2]; exact va_assign hcls) rfl rfl d fun H1 e z oq => ?_
  refine kk H1 _ ls (hP.kind oq (fun e' he => ?_)) (z.trans hz) (hS.put z oq hAa) hll
  rw [wl_fix (va_up_s _ _ _)] at he
  cases he
  show H1[a]? = some (vp_cell _ _)
  rw [e, kj]
  rw [vp_cell_q, vp_cell_q, arrV_store]
  congr 2
  funext q
  by_cases hq : q = j
  · subst hq
    simp [updV, va_up, va_rf]
  · simp [updV, va_up, hq]
theorem r_objInit {J : Jt} (X : Cx E G own cc nL k J) {idx a : Nat} (w1 : Cond.methodLink own idx Lib.objectInit ∈ eW E) (w2 : Cond.instanceMethod Lib.objectInit ∈ eW E) (w3 : Cond.code Lib.objectInit ⟨#[0xb1]⟩ 1 none ∈ eW E) (hk : 1 ≤ k) (hst : st = []) (d : decode cc pc = .ok (.invokespecial idx, 3)) (kk : J S (pc + 3) L st) : J S pc L (.ref a :: st) := by
  obtain ⟨p, e, R, s, m, args, below, meth, c, A, sz, n1, n2, Q, ⟨hx, hb, hml, hown, hts⟩, hK, hN, hR, hE, hA, rfl⟩ := X
  intro H locs ls hP hz hS hll
  subst hst
  refine W.objInit hx hb hown (hts _ w1) (hts _ w2) (hts _ w3) rfl (hll.1.1.trans hml.symm) rfl d (by omega) (by show 2 * 0 + 0 + 12 ≤ R.locals; omega) ?_
  exact kk H locs ls hP hz hS hll
def CN (E : Ev) (G : Gm) (y : MethodName) (cc : ByteArray) (nL k mc ms : Nat) (av : List Value) (S : Sg) (sz : Nat) (G' : Gm) (S' : Sg) : Prop :=
  Met (eL E) y (Cond.code y cc nL none :: eW E) { frames := k, cells := mc, slots := ms, locals := 40 * k } (va_Pc av (fun U => wPc E G S U ∧ U.heap.size = sz)) (fun _ st oc t => (oc = .returned none ∧ wP E G' S' t.heap ∧ t.heap.size = sz + mc) ∧ va_F (fun q => dG G q ∨ sz ≤ q) st t) mc ms (fun q => dG G q ∨ sz ≤ q)
theorem mk_n {y : MethodName} {mc ms : Nat} {av : List Value} {G' : Gm} {S' : Sg} (hy : plainName y.cls = true) (hyn : y.name = "<init>") (hE : eOK E) (hav : ∀ v ∈ av, v.category = 1) (hlen : av.length ≤ nL)
    (body : ∀ J : Gm → Nat → Nat → Nat → Jt, Cn E y.cls cc nL k mc ms "<init>" (fun q => dG G q ∨ sz ≤ q) J → (∀ (pc : Nat) (L : List (Option Value)), decode cc pc = .ok (.return_, 1) → J G' (sz + mc) mc ms S' pc L []) → J G sz 0 0 S 0 (av.map some ++ List.replicate (nL - av.length) none) []) : CN E G y cc nL k mc ms av S sz G' S' := by
  refine Met.ofW (cc := cc) (maxL := nL) (ret := none) hy rfl ?_
  intro p e s m args below meth c s₁ B hml hv
  obtain ⟨rfl, ⟨hP, hK, hN⟩, hsz⟩ := hv
  have hx := B.exec
  have hb := B.bytes
  have hr := B.returns
  have hts := atoms_spec (ws := Cond.code y cc nL none :: eW E) B.pre
  have hown : s.vm.findClass y.cls = some m.cls := findClass_of_methodNamed B.named
  have hlocks := B.notSynchronized
  have hin : meth.name = "<init>" := by rw [← hyn]; exact (name_of_methodNamed B.named B.method).1
  rw [lg_entry_eq]
  subst hsz
  refine body (fun G sz n1 n2 => jw p e _ s m av.toArray below meth c E G (fun q => dG _ q ∨ s.heap.size ≤ q) sz n1 n2 nL _) ⟨p, e, _, s, m, av.toArray, below, meth, c, _, ⟨hx, hb, hml, hown, fun w h => hts w (List.mem_cons_of_mem _ h)⟩, hK, hN, ⟨Nat.le_refl _, Nat.le_refl _, Nat.le_refl _, Nat.le_refl _⟩, hE, fun _ h => Or.inr h, hin, rfl⟩ ?_ s.heap [] _ hP rfl va_S.rf (lo_entry hav hlen)
  intro pc L d H locs ls hP1 hz1 hS1 hl1
  exact W.vret hx hb hr (fun t ht hW => ⟨⟨rfl, by rw [ht]; exact hP1, by rw [ht]; exact hz1⟩, hS1.F ht⟩) hS1.2.2 d
def lkI (W : List Cond) (own : String) (idx : Nat) (y : MethodName) (c2 : ByteArray) (nL2 : Nat) (n : Nat) : Prop :=
  Cond.code y c2 nL2 none ∈ W ∧ Cond.methodLink own idx y ∈ W ∧ Cond.instanceMethod y ∈ W ∧ Cond.initialized y.cls ∈ W ∧ y.name = "<init>" ∧ (y.cls ≠ "java/lang/invoke/MethodHandle" ∧ y.cls ≠ "java/lang/invoke/VarHandle" ∧ (parseMethodDescriptor y.desc).map (fun d => d.parameters.length) = some n) ∧ nL2 ≤ 21
theorem cn_call (X : Cn E own cc nL k c1 c2 mn A J) {idx nL2 n k2 b mc ms : Nat} {y : MethodName} {cb : ByteArray} {As rest : List Value} {G' : Gm} {S' : Sg} (hl : lkI (eW E) own idx y cb nL2 n) (hM : CN E G y cb nL2 k2 mc ms (.ref b :: As) S sz G' S') (hAG : ∀ q, dG G q → A q) (hAz : ∀ q, sz ≤ q → A q) (hk : k2 + 1 ≤ k) (hn : As.length = n) (h1 : n1 + mc ≤ c1) (h2 : n2 + ms ≤ c2) (hw : (rest.map fun v => v.category).sum ≤ 8) (d : decode cc pc = .ok (.invokespecial idx, 3)) (hst : st = As.reverse ++ .ref b :: rest)
    (kk : J G' (sz + mc) (n1 + mc) (n2 + ms) S' (pc + 3) L rest) : J G sz n1 n2 S pc L st := by
  obtain ⟨p, e, R, s, m, args, below, meth, c, Q, ⟨hx, hb, hml, hown, hts⟩, hK, hN, hR, hE, hA, hmn, rfl⟩ := X
  obtain ⟨w1, w2, w3, w4, w7, w5, w6⟩ := hl
  intro H locs ls hP hz hS hll
  subst hst
  have hrun := va_runI (p := p) (l := eL E) (e := e) (R := R) (below := below) (meth := meth) (locs := locs) (cells := n1) (slots := n2) (H := H) (g := F0 m pc ls (As.reverse ++ .ref b :: rest)) (cc := cc) (nL := nL) (Ts := eW E) (own := own) (b := b) (As := As) (rest := rest) ⟨hx, hb, hml, hown, hts⟩ hM ⟨callB_of n hts (gd_in hE w1) rfl rfl rfl (hts _ w4) (hts _ w2) w5 ⟨by show k2 + 1 ≤ R.frames; omega, by show 8 + (nL2 + 11) + 40 * k2 ≤ R.locals; omega⟩, w7, hts _ w3⟩ ⟨fun a U g mk q => by
      obtain ⟨q0, ⟨qP, qK, qN⟩, qz⟩ := q
      exact ⟨q0, ⟨qP, va_K.moved (u := U) (U := U.calling g mk a) (Vm.Alike.refl U.vm) qK, fun w hw => nw_same (hE.2.1 w hw) (s := U) (U := U.calling g mk a) rfl (qN w hw)⟩, qz⟩, fun U hU hW => ⟨rfl, ⟨by rw [hU]; exact hP, va_K.moved hW.alike hK, fun w hw => nw_warm (hE.2.1 w hw) hW (hN w hw)⟩, by rw [hU]; exact hz⟩⟩ rfl hn hll.1.1 rfl (lv_room hw) d ⟨Nat.le_trans h1 hR.2.2.1, Nat.le_trans h2 hR.2.2.2⟩
  intro T hT X
  obtain ⟨v, st₀, t, T', Lc, h0, X', hL, e1, e2, ⟨⟨hv, hb1, hb2⟩, hzz, hkk⟩, sst⟩ := hrun T hT X
  cases hv
  rw [h0] at hzz hkk
  obtain ⟨t2, a1, b1⟩ := kk T'.heap (locs ++ Lc) ls (by rw [e1]; exact hb1) (by rw [e1]; exact hb2)
    ⟨Nat.le_trans hS.1 (by rw [e1]; exact hzz), fun q g1 g2 => by rw [e1, hkk q (Nat.lt_of_lt_of_le g1 hS.1) (fun z => g2 (z.elim (hAG q) (hAz q)))]; exact hS.2.1 q g1 g2, fun q hq => by
      rcases List.mem_append.mp hq with h | h
      · exact hS.2.2 q h
      · exact (hL q h).elim (hAG _) (hAz _)⟩ hll T' rfl X'
  exact ⟨t2, sst t2 a1, b1⟩
end MK
