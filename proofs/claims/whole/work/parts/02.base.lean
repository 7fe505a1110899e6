abbrev Sg : Type := (Nat → Nat → Nat) × (Nat → Int32)
abbrev Kd : Type := Nat ⊕ ((Nat × (Int32 → List Value)) ⊕ va_E)
abbrev Gm : Type := Nat → Option Kd
abbrev Ev : Type := Launch × (va_G × (List vw_C × (List (ClassId × FieldType) × (ClassId × (List Cond × List Cond)))))
def eL (E : Ev) : Launch := E.1
def eD (E : Ev) : va_G := E.2.1
def eC (E : Ev) : List vw_C := E.2.2.1
def eT (E : Ev) : List (ClassId × FieldType) := E.2.2.2.1
def eI (E : Ev) : ClassId := E.2.2.2.2.1
def eW (E : Ev) : List Cond := E.2.2.2.2.2.1
def eN (E : Ev) : List Cond := E.2.2.2.2.2.2
def kArr (n : Nat) : Kd := .inl n
def kObj (ci : Nat) (F : Int32 → List Value) : Kd := .inr (.inl (ci, F))
def kFix (e : va_E) : Kd := .inr (.inr e)
def wl (cI : ClassId) (G : Gm) (S : Sg) (a : Nat) : Option va_E := match G a with
  | none => none
  | some (.inl n) => some (.inl (cI, n, .inl (fun i => nI (S.1 a i))))
  | some (.inr (.inl o)) => some (.inr (o.1, o.2 (S.2 a)))
  | some (.inr (.inr e)) => some e
theorem wl_arr {cI : ClassId} {G : Gm} {S : Sg} {a n : Nat} (h : G a = some (kArr n)) : wl cI G S a = some (.inl (cI, n, .inl (fun i => nI (S.1 a i)))) := by
  unfold wl; rw [h]; rfl
theorem wl_obj {cI : ClassId} {G : Gm} {S : Sg} {a ci : Nat} {F : Int32 → List Value} (h : G a = some (kObj ci F)) : wl cI G S a = some (.inr (ci, F (S.2 a))) := by
  unfold wl; rw [h]; rfl
theorem wl_fix {cI : ClassId} {G : Gm} {S : Sg} {a : Nat} {e : va_E} (h : G a = some (kFix e)) : wl cI G S a = some e := by
  unfold wl; rw [h]; rfl
def wP (E : Ev) (G : Gm) (S : Sg) (H : Heap) : Prop := ∀ (a : Nat) (e : va_E), wl (eI E) G S a = some e → va_at (eD E) (eC E) (a, e) H
def dG (G : Gm) : Nat → Prop := fun a => G a ≠ none
theorem wP.one {E : Ev} {G : Gm} {S : Sg} {H : Heap} (h : wP E G S H) {a : Nat} {e : va_E} (he : wl (eI E) G S a = some e) : va_P (eD E) (eC E) [(a, e)] H := by
  intro k q hk
  have h1 : q = (a, e) := List.mem_singleton.mp (List.mem_of_getElem? hk)
  subst h1
  exact h a e he
theorem wP.put {E : Ev} {G : Gm} {S S' : Sg} {H H1 : Heap} {a : Nat} (h : wP E G S H) (oq : ∀ q : Nat, q ≠ a → H1[q]? = H[q]?) (hs : ∀ q, q ≠ a → wl (eI E) G S' q = wl (eI E) G S q) (ha : ∀ e, wl (eI E) G S' a = some e → va_at (eD E) (eC E) (a, e) H1) : wP E G S' H1 := by
  intro q e he
  by_cases hq : q = a
  · subst hq
    exact ha e he
  · rw [hs q hq] at he
    exact (h q e he).kept (oq q hq)
def arS (S : Sg) (a : Nat) (f : Nat → Nat) : Sg := (va_up S.1 a f, S.2)
def fdS (S : Sg) (a : Nat) (x : Int32) : Sg := (S.1, va_up S.2 a x)
theorem va_up_s {α : Type} (f : Nat → α) (k : Nat) (v : α) : va_up f k v k = v := by simp [va_up]
theorem va_up_n {α : Type} {f : Nat → α} {k j : Nat} {v : α} (h : j ≠ k) : va_up f k v j = f j := by simp [va_up, h]
theorem va_up_id {α : Type} (f : Nat → α) (k : Nat) : va_up f k (f k) = f := by
  funext j
  by_cases h : j = k
  · subst h; simp [va_up]
  · simp [va_up, h]
theorem va_up_up {α : Type} (f : Nat → α) (k : Nat) (v w : α) : va_up (va_up f k v) k w = va_up f k w := by
  funext j
  by_cases h : j = k <;> simp [va_up, h]
theorem arS_1 (S : Sg) (a : Nat) (f : Nat → Nat) : (arS S a f).1 a = f := va_up_s _ _ _
theorem arS_1n {S : Sg} {a b : Nat} {f : Nat → Nat} (h : b ≠ a) : (arS S a f).1 b = S.1 b := va_up_n h
theorem arS_2 (S : Sg) (a : Nat) (f : Nat → Nat) : (arS S a f).2 = S.2 := rfl
theorem fdS_1 (S : Sg) (a : Nat) (x : Int32) : (fdS S a x).1 = S.1 := rfl
theorem fdS_2 (S : Sg) (a : Nat) (x : Int32) : (fdS S a x).2 a = x := va_up_s _ _ _
theorem fdS_2n {S : Sg} {a b : Nat} {x : Int32} (h : b ≠ a) : (fdS S a x).2 b = S.2 b := va_up_n h
theorem arS_id (S : Sg) (a : Nat) : arS S a (S.1 a) = S := by
  obtain ⟨s1, s2⟩ := S
  show (va_up s1 a (s1 a), s2) = (s1, s2)
  rw [va_up_id]
theorem fdS_id (S : Sg) (a : Nat) : fdS S a (S.2 a) = S := by
  obtain ⟨s1, s2⟩ := S
  show (s1, va_up s2 a (s2 a)) = (s1, s2)
  rw [va_up_id]
theorem arS_arS (S : Sg) (a : Nat) (f g : Nat → Nat) : arS (arS S a f) a g = arS S a g := by
  show (va_up (va_up S.1 a f) a g, S.2) = _
  rw [va_up_up]; rfl
theorem fdS_fdS (S : Sg) (a : Nat) (x y : Int32) : fdS (fdS S a x) a y = fdS S a y := by
  show (S.1, va_up (va_up S.2 a x) a y) = _
  rw [va_up_up]; rfl
theorem fdS_arS (S : Sg) (a b : Nat) (f : Nat → Nat) (x : Int32) : fdS (arS S a f) b x = arS (fdS S b x) a f := rfl
def lo_l (L : List (Option Value)) : List (Nat × Value) := L.zipIdx.filterMap (fun q => q.1.map (fun v => (q.2, v)))
theorem lo_mem {L : List (Option Value)} {i : Nat} {v : Value} : (i, v) ∈ lo_l L ↔ L[i]? = some (some v) := by
  unfold lo_l
  rw [List.mem_filterMap]
  constructor
  · rintro ⟨⟨o, j⟩, h1, h2⟩
    rw [List.mem_zipIdx_iff_getElem?] at h1
    cases o with
    | none => simp at h2
    | some w =>
      simp at h2
      obtain ⟨rfl, rfl⟩ := h2
      exact h1
  · intro h
    exact ⟨(some v, i), List.mem_zipIdx_iff_getElem?.mpr h, rfl⟩
def lo_has (ls : Array Slot) (nL : Nat) (L : List (Option Value)) : Prop := lv_has ls nL (lo_l L) ∧ ∀ (i : Nat) (v : Value), L[i]? = some (some v) → v.category = 1
theorem lo_at {ls : Array Slot} {nL : Nat} {L : List (Option Value)} {i : Nat} {v : Value} (h : lo_has ls nL L) (hi : L[i]? = some (some v)) : ls[i]? = some (.val v) := h.1.2.2 (i, v) (lo_mem.mpr hi)
theorem lo_key {L : List (Option Value)} {i j : Nat} {v w : Value} (hj : (L.set i (some v))[j]? = some (some w)) : (j = i ∧ w = v) ∨ (j ≠ i ∧ L[j]? = some (some w)) := by
  rw [List.getElem?_set] at hj
  by_cases e : i = j
  · rw [if_pos e] at hj
    by_cases e2 : i < L.length
    · rw [if_pos e2] at hj
      exact Or.inl ⟨e.symm, (Option.some.inj (Option.some.inj hj)).symm⟩
    · rw [if_neg e2] at hj
      cases hj
  · rw [if_neg e] at hj
    exact Or.inr ⟨fun z => e z.symm, hj⟩
theorem lo_put {ls ls' : Array Slot} {nL : Nat} {L : List (Option Value)} {i : Nat} {v : Value} (h : lo_has ls nL L) (hc : v.category = 1) (h' : lv_has ls' nL ((i, v) :: (lo_l L).filter (fun q => !(q.1 == i) && !(q.1 + 1 == i && q.2.category == 2)))) : lo_has ls' nL (L.set i (some v)) := by
  refine ⟨⟨h'.1, h'.2.1, fun q hq => ?_⟩, fun j w hj => ?_⟩
  · obtain ⟨j, w⟩ := q
    rcases lo_key (lo_mem.mp hq) with ⟨rfl, rfl⟩ | ⟨h1, h2⟩
    · exact h'.2.2 _ List.mem_cons_self
    · refine h'.2.2 (j, w) (List.mem_cons_of_mem _ (List.mem_filter.mpr ⟨lo_mem.mpr h2, ?_⟩))
      have hw := h.2 j w h2
      simp [h1, hw]
  · rcases lo_key hj with ⟨rfl, rfl⟩ | ⟨h1, h2⟩
    · exact hc
    · exact h.2 j w h2
theorem lo_forget {ls : Array Slot} {nL : Nat} {L L' : List (Option Value)} (h : lo_has ls nL L) (hs : ∀ (i : Nat) (v : Value), L'[i]? = some (some v) → L[i]? = some (some v)) : lo_has ls nL L' :=
  ⟨⟨h.1.1, h.1.2.1, fun q hq => h.1.2.2 q (lo_mem.mpr (hs q.1 q.2 (lo_mem.mp hq)))⟩, fun i v hi => h.2 i v (hs i v hi)⟩
theorem lo_args {av : List Value} (hc : ∀ v ∈ av, v.category = 1) : ∀ (i j : Nat) (v : Value), av[j]? = some v → (i + j, v) ∈ lv_args i av := by
  induction av with
  | nil => intro i j v h; simp at h
  | cons w ws ih =>
    intro i j v h
    have hw : ¬ w.category = 2 := by have := hc w List.mem_cons_self; omega
    unfold lv_args
    rw [if_neg hw]
    cases j with
    | zero =>
      simp at h
      subst h
      exact List.mem_cons_self
    | succ j =>
      rw [List.getElem?_cons_succ] at h
      have := ih (fun v hv => hc v (List.mem_cons_of_mem _ hv)) (i + 1) j v h
      rw [show i + 1 + j = i + (j + 1) by omega] at this
      exact List.mem_cons_of_mem _ this
theorem lo_sl {av : List Value} (hc : ∀ v ∈ av, v.category = 1) : (lg_sl av).length = av.length := by
  induction av with
  | nil => rfl
  | cons w ws ih =>
    have hw : ¬ w.category = 2 := by have := hc w List.mem_cons_self; omega
    have := ih (fun v hv => hc v (List.mem_cons_of_mem _ hv))
    simp only [lg_sl, List.flatMap_cons, if_neg hw, List.length_append, List.length_cons, List.length_nil] at this ⊢
    omega
theorem lo_entry {av : List Value} {n : Nat} (hc : ∀ v ∈ av, v.category = 1) (hn : av.length ≤ n) : lo_has ((lg_sl av ++ List.replicate (n - (lg_sl av).length) Slot.unset).toArray) n (av.map some ++ List.replicate (n - av.length) none) := by
  have h1 := lv_entry av (n := n) (by rw [lo_sl hc]; exact hn)
  have key : ∀ (i : Nat) (v : Value), (av.map some ++ List.replicate (n - av.length) none)[i]? = some (some v) → av[i]? = some v := by
    intro i v hi
    by_cases hl : i < av.length
    · rw [List.getElem?_append_left (by simpa using hl), List.getElem?_map] at hi
      cases hz : av[i]? with
      | none => rw [hz] at hi; cases hi
      | some x => rw [hz] at hi; exact Option.some.inj hi
    · rw [List.getElem?_append_right (by simpa using hl), List.getElem?_replicate] at hi
      split at hi
      · cases hi
      · cases hi
  refine ⟨⟨h1.1, h1.2.1, fun q hq => h1.2.2 q ?_⟩, fun i v hi => hc v (List.mem_of_getElem? (key i v hi))⟩
  have := lo_args hc 0 q.1 q.2 (key q.1 q.2 (lo_mem.mp hq))
  rw [Nat.zero_add] at this
  exact this
def jw (p : Program) (e : Env) (R : Room) (s : State) (m : MethodId) (args : Array Value) (below : List Frame) (meth : Method) (c : Code) (E : Ev) (G : Gm) (A : Nat → Prop) (sz n1 n2 nL : Nat) (Q : State → Prop) (S : Sg) (pc : Nat) (L : List (Option Value)) (st : List Value) : Prop :=
  ∀ (H : Heap) (locs : List Loc) (ls : Array Slot), wP E G S H → H.size = sz → va_S A s.heap H locs → lo_has ls nL L → W p (eL E) e R s m args below meth c H locs n1 n2 Q (F0 m pc ls st)
def wQ (E : Ev) (G : Gm) (post : Sg → Option Value → Prop) : Array Value → State → Outcome → State → Prop := fun _ st oc t => (∃ (S' : Sg) (v : Option Value), oc = .returned v ∧ post S' v ∧ wP E G S' t.heap) ∧ t.heap.size = st.heap.size ∧ va_F (dG G) st t
def wPc (E : Ev) (G : Gm) (S : Sg) (U : State) : Prop := wP E G S U.heap ∧ va_K (eD E) (eC E) (eT E) U ∧ ∀ w ∈ eN E, va_Nw w U
def CT (E : Ev) (G : Gm) (y : MethodName) (cc : ByteArray) (nL : Nat) (ret : Option FieldType) (k : Nat) (av : List Value) (S : Sg) (post : Sg → Option Value → Prop) : Prop :=
  Met (eL E) y (Cond.code y cc nL ret :: eW E) { frames := k, cells := 0, slots := 0, locals := 40 * k } (va_Pc av (wPc E G S)) (wQ E G post) 0 0 (dG G)
def nwk : Cond → Bool
  | .fieldLinkNest .. => true
  | .methodLinkNest .. => true
  | _ => false
def eOK (E : Ev) : Prop := (∀ w ∈ eW E, (w.onTables && w.keeps) = true ∨ ∃ ty, w = .arrayClass ty) ∧ (∀ w ∈ eN E, nwk w = true) ∧ (eT E)[0]? = some (eI E, .int)
abbrev Jt : Type := Sg → Nat → List (Option Value) → List Value → Prop
def Cx (E : Ev) (G : Gm) (own : String) (cc : ByteArray) (nL k : Nat) (J : Jt) : Prop :=
  ∃ (p : Program) (e : Env) (R : Room) (s : State) (m : MethodId) (args : Array Value) (below : List Frame) (meth : Method) (c : Code) (A : Nat → Prop) (sz n1 n2 : Nat) (Q : State → Prop),
    (p.tables.exec = Jvm.exec ∧ c.code = cc ∧ c.maxLocals = nL ∧ s.vm.findClass own = some m.cls ∧ (∀ w ∈ eW E, w.before args s = true)) ∧ va_K (eD E) (eC E) (eT E) s ∧ (∀ w ∈ eN E, va_Nw w s) ∧ (k ≤ R.frames ∧ 40 * k ≤ R.locals ∧ n1 ≤ R.cells ∧ n2 ≤ R.slots) ∧ eOK E ∧ (∀ q, dG G q → A q) ∧
    J = jw p e R s m args below meth c E G A sz n1 n2 nL Q
def Ri (cc : ByteArray) (ty : FieldType) (post : Sg → Option Value → Prop) (J : Jt) : Prop := ∀ (S : Sg) (pc : Nat) (L : List (Option Value)) (v : Int32), decode cc pc = .ok (.ireturn, 1) → narrow ty (.int v) = .int v → post S (some (.int v)) → J S pc L [.int v]
def Rv (cc : ByteArray) (post : Sg → Option Value → Prop) (J : Jt) : Prop := ∀ (S : Sg) (pc : Nat) (L : List (Option Value)), decode cc pc = .ok (.return_, 1) → post S none → J S pc L []
theorem nw_warm {w : Cond} (hw : nwk w = true) {s U : State} (hW : s.WarmedH U.vm) (h : va_Nw w s) : va_Nw w U := by
  cases w <;> first | exact va_Nw.warmF hW h | exact va_Nw.warmM hW h | cases hw
theorem nw_same {w : Cond} (hw : nwk w = true) {s U : State} (e : s.vm = U.vm) (h : va_Nw w s) : va_Nw w U := by
  cases w <;> first | exact va_Nw.same rfl e h | cases hw
theorem mk_i {E : Ev} {G : Gm} {y : MethodName} {cc : ByteArray} {nL k : Nat} {ty : FieldType} {av : List Value} {S : Sg} {post : Sg → Option Value → Prop} (hy : plainName y.cls = true) (hE : eOK E) (hav : ∀ v ∈ av, v.category = 1) (hlen : av.length ≤ nL)
    (body : ∀ J : Jt, Cx E G y.cls cc nL k J → Ri cc ty post J → J S 0 (av.map some ++ List.replicate (nL - av.length) none) []) : CT E G y cc nL (some ty) k av S post := by
  refine Met.ofW (cc := cc) (maxL := nL) (ret := some ty) hy rfl ?_
  intro p e s m args below meth c s₁ B hml hv
  obtain ⟨rfl, hP, hK, hN⟩ := hv
  have hx := B.exec
  have hb := B.bytes
  have hr := B.returns
  have hts := atoms_spec (ws := Cond.code y cc nL (some ty) :: eW E) B.pre
  have hown : s.vm.findClass y.cls = some m.cls := findClass_of_methodNamed B.named
  have hlocks := B.notSynchronized
  rw [lg_entry_eq]
  refine body (jw p e _ s m av.toArray below meth c E G (dG G) s.heap.size 0 0 nL _) ⟨p, e, _, s, m, av.toArray, below, meth, c, dG G, s.heap.size, 0, 0, _, ⟨hx, hb, hml, hown, fun w h => hts w (List.mem_cons_of_mem _ h)⟩, hK, hN, ⟨Nat.le_refl _, Nat.le_refl _, Nat.zero_le _, Nat.zero_le _⟩, hE, fun _ h => h, rfl⟩ ?_ s.heap [] _ hP rfl va_S.rf (lo_entry hav hlen)
  intro S1 pc L v d hn hp H locs ls hP1 hz1 hS1 hl1
  exact W.zret hx hb hr hn (fun t ht hW => ⟨⟨S1, _, rfl, hp, by rw [ht]; exact hP1⟩, by rw [ht]; exact hz1, hS1.F ht⟩) hS1.2.2 d
theorem mk_v {E : Ev} {G : Gm} {y : MethodName} {cc : ByteArray} {nL k : Nat} {av : List Value} {S : Sg} {post : Sg → Option Value → Prop} (hy : plainName y.cls = true) (hE : eOK E) (hav : ∀ v ∈ av, v.category = 1) (hlen : av.length ≤ nL)
    (body : ∀ J : Jt, Cx E G y.cls cc nL k J → Rv cc post J → J S 0 (av.map some ++ List.replicate (nL - av.length) none) []) : CT E G y cc nL none k av S post := by
  refine Met.ofW (cc := cc) (maxL := nL) (ret := none) hy rfl ?_
  intro p e s m args below meth c s₁ B hml hv
  obtain ⟨rfl, hP, hK, hN⟩ := hv
  have hx := B.exec
  have hb := B.bytes
  have hr := B.returns
  have hts := atoms_spec (ws := Cond.code y cc nL none :: eW E) B.pre
  have hown : s.vm.findClass y.cls = some m.cls := findClass_of_methodNamed B.named
  have hlocks := B.notSynchronized
  rw [lg_entry_eq]
  refine body (jw p e _ s m av.toArray below meth c E G (dG G) s.heap.size 0 0 nL _) ⟨p, e, _, s, m, av.toArray, below, meth, c, dG G, s.heap.size, 0, 0, _, ⟨hx, hb, hml, hown, fun w h => hts w (List.mem_cons_of_mem _ h)⟩, hK, hN, ⟨Nat.le_refl _, Nat.le_refl _, Nat.zero_le _, Nat.zero_le _⟩, hE, fun _ h => h, rfl⟩ ?_ s.heap [] _ hP rfl va_S.rf (lo_entry hav hlen)
  intro S1 pc L d hp H locs ls hP1 hz1 hS1 hl1
  exact W.vret hx hb hr (fun t ht hW => ⟨⟨S1, _, rfl, hp, by rw [ht]; exact hP1⟩, by rw [ht]; exact hz1, hS1.F ht⟩) hS1.2.2 d
section RW
variable {E : Ev} {G : Gm} {own : String} {cc : ByteArray} {nL k : Nat} {J : Jt} {S : Sg} {pc : Nat} {L : List (Option Value)} {st : List Value}
theorem r_iconst (X : Cx E G own cc nL k J) {n : Int} {x : Int32} (d : decode cc pc = .ok (.iconst n, 1)) (hv : Int32.ofInt n = x) (kk : J S (pc + 1) L (.int x :: st)) : J S pc L st := by
  obtain ⟨p, e, R, s, m, args, below, meth, c, A, sz, n1, n2, Q, ⟨hx, hb, hml, hown, hts⟩, hK, hN, hR, hE, hA, rfl⟩ := X
  intro H locs ls hP hz hS hl
  exact lv_iconst hx hb d hv (kk H locs ls hP hz hS hl)
theorem r_bipush (X : Cx E G own cc nL k J) {n : Int} {x : Int32} (d : decode cc pc = .ok (.bipush n, 2)) (hv : (Int8.ofInt n).toInt32 = x) (kk : J S (pc + 2) L (.int x :: st)) : J S pc L st := by
  obtain ⟨p, e, R, s, m, args, below, meth, c, A, sz, n1, n2, Q, ⟨hx, hb, hml, hown, hts⟩, hK, hN, hR, hE, hA, rfl⟩ := X
  intro H locs ls hP hz hS hl
  exact lv_bipush hx hb d hv (kk H locs ls hP hz hS hl)
theorem r_sipush (X : Cx E G own cc nL k J) {n : Int} {x : Int32} (d : decode cc pc = .ok (.sipush n, 3)) (hv : (Int16.ofInt n).toInt32 = x) (kk : J S (pc + 3) L (.int x :: st)) : J S pc L st := by
  obtain ⟨p, e, R, s, m, args, below, meth, c, A, sz, n1, n2, Q, ⟨hx, hb, hml, hown, hts⟩, hK, hN, hR, hE, hA, rfl⟩ := X
  intro H locs ls hP hz hS hl
  exact lv_sipush hx hb d hv (kk H locs ls hP hz hS hl)
theorem r_iload_n (X : Cx E G own cc nL k J) {i : Fin 4} {x : Int32} (d : decode cc pc = .ok (.iload_n i, 1)) (h : L[(i : Nat)]? = some (some (.int x))) (kk : J S (pc + 1) L (.int x :: st)) : J S pc L st := by
  obtain ⟨p, e, R, s, m, args, below, meth, c, A, sz, n1, n2, Q, ⟨hx, hb, hml, hown, hts⟩, hK, hN, hR, hE, hA, rfl⟩ := X
  intro H locs ls hP hz hS hl
  exact lv_iload_n hx hb d rfl (lo_at hl h) (kk H locs ls hP hz hS hl)
theorem r_iload (X : Cx E G own cc nL k J) {i : Nat} {x : Int32} (d : decode cc pc = .ok (.iload i, 2)) (h : L[i]? = some (some (.int x))) (kk : J S (pc + 2) L (.int x :: st)) : J S pc L st := by
  obtain ⟨p, e, R, s, m, args, below, meth, c, A, sz, n1, n2, Q, ⟨hx, hb, hml, hown, hts⟩, hK, hN, hR, hE, hA, rfl⟩ := X
  intro H locs ls hP hz hS hl
  exact lv_iload hx hb d (lo_at hl h) (kk H locs ls hP hz hS hl)
theorem r_aload_n (X : Cx E G own cc nL k J) {i : Fin 4} {x : Nat} (d : decode cc pc = .ok (.aload_n i, 1)) (h : L[(i : Nat)]? = some (some (.ref x))) (kk : J S (pc + 1) L (.ref x :: st)) : J S pc L st := by
  obtain ⟨p, e, R, s, m, args, below, meth, c, A, sz, n1, n2, Q, ⟨hx, hb, hml, hown, hts⟩, hK, hN, hR, hE, hA, rfl⟩ := X
  intro H locs ls hP hz hS hl
  exact lv_aload_n hx hb d rfl (lo_at hl h) (kk H locs ls hP hz hS hl)
theorem r_aload (X : Cx E G own cc nL k J) {i : Nat} {x : Nat} (d : decode cc pc = .ok (.aload i, 2)) (h : L[i]? = some (some (.ref x))) (kk : J S (pc + 2) L (.ref x :: st)) : J S pc L st := by
  obtain ⟨p, e, R, s, m, args, below, meth, c, A, sz, n1, n2, Q, ⟨hx, hb, hml, hown, hts⟩, hK, hN, hR, hE, hA, rfl⟩ := X
  intro H locs ls hP hz hS hl
  exact lv_aload hx hb d (lo_at hl h) (kk H locs ls hP hz hS hl)
theorem r_istore_n (X : Cx E G own cc nL k J) {i : Fin 4} {x : Int32} (d : decode cc pc = .ok (.istore_n i, 1)) (hi : (i : Nat) < nL) (kk : J S (pc + 1) (L.set (i : Nat) (some (.int x))) st) : J S pc L (.int x :: st) := by
  obtain ⟨p, e, R, s, m, args, below, meth, c, A, sz, n1, n2, Q, ⟨hx, hb, hml, hown, hts⟩, hK, hN, hR, hE, hA, rfl⟩ := X
  intro H locs ls hP hz hS hl
  exact lv_istore_n hx hb d rfl hl.1 hi rfl (fun ls' h' => kk H locs ls' hP hz hS (lo_put hl rfl h'))
theorem r_istore (X : Cx E G own cc nL k J) {i : Nat} {x : Int32} (d : decode cc pc = .ok (.istore i, 2)) (hi : i < nL) (kk : J S (pc + 2) (L.set i (some (.int x))) st) : J S pc L (.int x :: st) := by
  obtain ⟨p, e, R, s, m, args, below, meth, c, A, sz, n1, n2, Q, ⟨hx, hb, hml, hown, hts⟩, hK, hN, hR, hE, hA, rfl⟩ := X
  intro H locs ls hP hz hS hl
  exact lv_istore hx hb d hl.1 hi rfl (fun ls' h' => kk H locs ls' hP hz hS (lo_put hl rfl h'))
theorem r_astore_n (X : Cx E G own cc nL k J) {i : Fin 4} {x : Nat} (d : decode cc pc = .ok (.astore_n i, 1)) (hi : (i : Nat) < nL) (kk : J S (pc + 1) (L.set (i : Nat) (some (.ref x))) st) : J S pc L (.ref x :: st) := by
  obtain ⟨p, e, R, s, m, args, below, meth, c, A, sz, n1, n2, Q, ⟨hx, hb, hml, hown, hts⟩, hK, hN, hR, hE, hA, rfl⟩ := X
  intro H locs ls hP hz hS hl
  exact lv_astore_n hx hb d rfl hl.1 hi rfl (fun ls' h' => kk H locs ls' hP hz hS (lo_put hl rfl h'))
theorem r_astore (X : Cx E G own cc nL k J) {i : Nat} {x : Nat} (d : decode cc pc = .ok (.astore i, 2)) (hi : i < nL) (kk : J S (pc + 2) (L.set i (some (.ref x))) st) : J S pc L (.ref x :: st) := by
  obtain ⟨p, e, R, s, m, args, below, meth, c, A, sz, n1, n2, Q, ⟨hx, hb, hml, hown, hts⟩, hK, hN, hR, hE, hA, rfl⟩ := X
  intro H locs ls hP hz hS hl
  exact lv_astore hx hb d hl.1 hi rfl (fun ls' h' => kk H locs ls' hP hz hS (lo_put hl rfl h'))
theorem r_iinc (X : Cx E G own cc nL k J) {i : Nat} {n : Int} {x y : Int32} (d : decode cc pc = .ok (.iinc i n, 3)) (h : L[i]? = some (some (.int x))) (hv : x + Int32.ofInt n = y) (hi : i < nL) (kk : J S (pc + 3) (L.set i (some (.int y))) st) : J S pc L st := by
  obtain ⟨p, e, R, s, m, args, below, meth, c, A, sz, n1, n2, Q, ⟨hx, hb, hml, hown, hts⟩, hK, hN, hR, hE, hA, rfl⟩ := X
  intro H locs ls hP hz hS hl
  obtain ⟨j, hj⟩ := List.getElem?_of_mem (lo_mem.mpr h)
  exact lv_iinc hx hb d hl.1 hj hv hi rfl (fun ls' h' => kk H locs ls' hP hz hS (lo_put hl rfl h'))
theorem r_iadd (X : Cx E G own cc nL k J) {x y : Int32} (d : decode cc pc = .ok (.iadd, 1)) (kk : J S (pc + 1) L (.int (x + y) :: st)) : J S pc L (.int y :: .int x :: st) := by
  obtain ⟨p, e, R, s, m, args, below, meth, c, A, sz, n1, n2, Q, ⟨hx, hb, hml, hown, hts⟩, hK, hN, hR, hE, hA, rfl⟩ := X
  intro H locs ls hP hz hS hl
  exact lv_iadd hx hb d (kk H locs ls hP hz hS hl)
theorem r_isub (X : Cx E G own cc nL k J) {x y : Int32} (d : decode cc pc = .ok (.isub, 1)) (kk : J S (pc + 1) L (.int (x - y) :: st)) : J S pc L (.int y :: .int x :: st) := by
  obtain ⟨p, e, R, s, m, args, below, meth, c, A, sz, n1, n2, Q, ⟨hx, hb, hml, hown, hts⟩, hK, hN, hR, hE, hA, rfl⟩ := X
  intro H locs ls hP hz hS hl
  exact lv_isub hx hb d (kk H locs ls hP hz hS hl)
theorem r_imul (X : Cx E G own cc nL k J) {x y : Int32} (d : decode cc pc = .ok (.imul, 1)) (kk : J S (pc + 1) L (.int (x * y) :: st)) : J S pc L (.int y :: .int x :: st) := by
  obtain ⟨p, e, R, s, m, args, below, meth, c, A, sz, n1, n2, Q, ⟨hx, hb, hml, hown, hts⟩, hK, hN, hR, hE, hA, rfl⟩ := X
  intro H locs ls hP hz hS hl
  exact lv_imul hx hb d (kk H locs ls hP hz hS hl)
theorem r_iand (X : Cx E G own cc nL k J) {x y : Int32} (d : decode cc pc = .ok (.iand, 1)) (kk : J S (pc + 1) L (.int (x &&& y) :: st)) : J S pc L (.int y :: .int x :: st) := by
  obtain ⟨p, e, R, s, m, args, below, meth, c, A, sz, n1, n2, Q, ⟨hx, hb, hml, hown, hts⟩, hK, hN, hR, hE, hA, rfl⟩ := X
  intro H locs ls hP hz hS hl
  exact lv_iand hx hb d (kk H locs ls hP hz hS hl)
theorem r_ixor (X : Cx E G own cc nL k J) {x y : Int32} (d : decode cc pc = .ok (.ixor, 1)) (kk : J S (pc + 1) L (.int (x ^^^ y) :: st)) : J S pc L (.int y :: .int x :: st) := by
  obtain ⟨p, e, R, s, m, args, below, meth, c, A, sz, n1, n2, Q, ⟨hx, hb, hml, hown, hts⟩, hK, hN, hR, hE, hA, rfl⟩ := X
  intro H locs ls hP hz hS hl
  exact lv_ixor hx hb d (kk H locs ls hP hz hS hl)
theorem r_ishr (X : Cx E G own cc nL k J) {x y : Int32} (d : decode cc pc = .ok (.ishr, 1)) (kk : J S (pc + 1) L (.int (x >>> (y &&& 31)) :: st)) : J S pc L (.int y :: .int x :: st) := by
  obtain ⟨p, e, R, s, m, args, below, meth, c, A, sz, n1, n2, Q, ⟨hx, hb, hml, hown, hts⟩, hK, hN, hR, hE, hA, rfl⟩ := X
  intro H locs ls hP hz hS hl
  exact lv_ishr hx hb d (kk H locs ls hP hz hS hl)
theorem r_idiv (X : Cx E G own cc nL k J) {x y : Int32} (d : decode cc pc = .ok (.idiv, 1)) (hne : ¬ y = 0) (kk : J S (pc + 1) L (.int (x / y) :: st)) : J S pc L (.int y :: .int x :: st) := by
  obtain ⟨p, e, R, s, m, args, below, meth, c, A, sz, n1, n2, Q, ⟨hx, hb, hml, hown, hts⟩, hK, hN, hR, hE, hA, rfl⟩ := X
  intro H locs ls hP hz hS hl
  exact lv_idiv hx hb d hne (kk H locs ls hP hz hS hl)
theorem r_irem (X : Cx E G own cc nL k J) {x y : Int32} (d : decode cc pc = .ok (.irem, 1)) (hne : ¬ y = 0) (kk : J S (pc + 1) L (.int (x - x / y * y) :: st)) : J S pc L (.int y :: .int x :: st) := by
  obtain ⟨p, e, R, s, m, args, below, meth, c, A, sz, n1, n2, Q, ⟨hx, hb, hml, hown, hts⟩, hK, hN, hR, hE, hA, rfl⟩ := X
  intro H locs ls hP hz hS hl
  exact lv_irem hx hb d hne (kk H locs ls hP hz hS hl)
theorem r_ineg (X : Cx E G own cc nL k J) {x : Int32} (d : decode cc pc = .ok (.ineg, 1)) (kk : J S (pc + 1) L (.int (-x) :: st)) : J S pc L (.int x :: st) := by
  obtain ⟨p, e, R, s, m, args, below, meth, c, A, sz, n1, n2, Q, ⟨hx, hb, hml, hown, hts⟩, hK, hN, hR, hE, hA, rfl⟩ := X
  intro H locs ls hP hz hS hl
  exact lv_ineg hx hb d (kk H locs ls hP hz hS hl)
theorem r_dup (X : Cx E G own cc nL k J) {va : Value} (d : decode cc pc = .ok (.dup, 1)) (hva : va.category = 1) (kk : J S (pc + 1) L (va :: va :: st)) : J S pc L (va :: st) := by
  obtain ⟨p, e, R, s, m, args, below, meth, c, A, sz, n1, n2, Q, ⟨hx, hb, hml, hown, hts⟩, hK, hN, hR, hE, hA, rfl⟩ := X
  intro H locs ls hP hz hS hl
  exact lv_dup hx hb d hva (kk H locs ls hP hz hS hl)
theorem r_pop (X : Cx E G own cc nL k J) {va : Value} (d : decode cc pc = .ok (.pop, 1)) (hva : va.category = 1) (kk : J S (pc + 1) L st) : J S pc L (va :: st) := by
  obtain ⟨p, e, R, s, m, args, below, meth, c, A, sz, n1, n2, Q, ⟨hx, hb, hml, hown, hts⟩, hK, hN, hR, hE, hA, rfl⟩ := X
  intro H locs ls hP hz hS hl
  exact lv_pop hx hb d hva (kk H locs ls hP hz hS hl)
theorem r_dup2 (X : Cx E G own cc nL k J) {va vb : Value} (d : decode cc pc = .ok (.dup2, 1)) (hva : va.category = 1) (hvb : vb.category = 1) (kk : J S (pc + 1) L (va :: vb :: va :: vb :: st)) : J S pc L (va :: vb :: st) := by
  obtain ⟨p, e, R, s, m, args, below, meth, c, A, sz, n1, n2, Q, ⟨hx, hb, hml, hown, hts⟩, hK, hN, hR, hE, hA, rfl⟩ := X
  intro H locs ls hP hz hS hl
  exact lv_dup2_11 hx hb d hva hvb (kk H locs ls hP hz hS hl)
theorem r_dup_x1 (X : Cx E G own cc nL k J) {va vb : Value} (d : decode cc pc = .ok (.dup_x1, 1)) (hva : va.category = 1) (hvb : vb.category = 1) (kk : J S (pc + 1) L (va :: vb :: va :: st)) : J S pc L (va :: vb :: st) := by
  obtain ⟨p, e, R, s, m, args, below, meth, c, A, sz, n1, n2, Q, ⟨hx, hb, hml, hown, hts⟩, hK, hN, hR, hE, hA, rfl⟩ := X
  intro H locs ls hP hz hS hl
  exact lv_dup_x1 hx hb d hva hvb (kk H locs ls hP hz hS hl)
theorem r_dup_x2 (X : Cx E G own cc nL k J) {va vb vd : Value} (d : decode cc pc = .ok (.dup_x2, 1)) (hva : va.category = 1) (hvb : vb.category = 1) (hvd : vd.category = 1) (kk : J S (pc + 1) L (va :: vb :: vd :: va :: st)) : J S pc L (va :: vb :: vd :: st) := by
  obtain ⟨p, e, R, s, m, args, below, meth, c, A, sz, n1, n2, Q, ⟨hx, hb, hml, hown, hts⟩, hK, hN, hR, hE, hA, rfl⟩ := X
  intro H locs ls hP hz hS hl
  exact lv_dup_x2 hx hb d hva hvb hvd (kk H locs ls hP hz hS hl)
theorem r_if_eq (X : Cx E G own cc nL k J) {x : Int32} {off : Int} {tgt : Nat} (d : decode cc pc = .ok (.ifCond .eq off, 3)) (ht : (pc : Int) + off = (tgt : Int)) (kt : x = 0 → J S tgt L st) (kf : ¬ x = 0 → J S (pc + 3) L st) : J S pc L (.int x :: st) := by
  obtain ⟨p, e, R, s, m, args, below, meth, c, A, sz, n1, n2, Q, ⟨hx, hb, hml, hown, hts⟩, hK, hN, hR, hE, hA, rfl⟩ := X
  intro H locs ls hP hz hS hl
  exact lv_if_eq hx hb d ht (fun h => kt h H locs ls hP hz hS hl) (fun h => kf (by first | exact h | exact Decidable.not_not.mp h) H locs ls hP hz hS hl)
theorem r_icmp_eq (X : Cx E G own cc nL k J) {x y : Int32} {off : Int} {tgt : Nat} (d : decode cc pc = .ok (.if_icmp .eq off, 3)) (ht : (pc : Int) + off = (tgt : Int)) (kt : x = y → J S tgt L st) (kf : ¬ x = y → J S (pc + 3) L st) : J S pc L (.int y :: .int x :: st) := by
  obtain ⟨p, e, R, s, m, args, below, meth, c, A, sz, n1, n2, Q, ⟨hx, hb, hml, hown, hts⟩, hK, hN, hR, hE, hA, rfl⟩ := X
  intro H locs ls hP hz hS hl
  exact lv_icmp_eq hx hb d ht (fun h => kt h H locs ls hP hz hS hl) (fun h => kf (by first | exact h | exact Decidable.not_not.mp h) H locs ls hP hz hS hl)
theorem r_icmp_eqN (X : Cx E G own cc nL k J) {a b : Nat} {off : Int} {tgt : Nat} (d : decode cc pc = .ok (.if_icmp .eq off, 3)) (ht : (pc : Int) + off = (tgt : Int)) (ha : a < 2 ^ 31) (hb : b < 2 ^ 31) (kt : a = b → J S tgt L st) (kf : a ≠ b → J S (pc + 3) L st) : J S pc L (.int (nI b) :: .int (nI a) :: st) :=
  r_icmp_eq X d ht (fun h => kt ((nI_eq ha hb).mp h)) (fun h => kf (fun z => h ((nI_eq ha hb).mpr z)))
theorem r_if_eqN (X : Cx E G own cc nL k J) {a : Nat} {off : Int} {tgt : Nat} (d : decode cc pc = .ok (.ifCond .eq off, 3)) (ht : (pc : Int) + off = (tgt : Int)) (ha : a < 2 ^ 31) (kt : a = 0 → J S tgt L st) (kf : a ≠ 0 → J S (pc + 3) L st) : J S pc L (.int (nI a) :: st) :=
  r_if_eq X d ht (fun h => kt ((nI_eq (b := 0) ha (show (0 : Nat) < 2 ^ 31 by decide)).mp (h.trans nI_0.symm))) (fun h => kf (fun z => h (by rw [z]; exact nI_0)))
theorem r_if_ne (X : Cx E G own cc nL k J) {x : Int32} {off : Int} {tgt : Nat} (d : decode cc pc = .ok (.ifCond .ne off, 3)) (ht : (pc : Int) + off = (tgt : Int)) (kt : ¬ x = 0 → J S tgt L st) (kf : x = 0 → J S (pc + 3) L st) : J S pc L (.int x :: st) := by
  obtain ⟨p, e, R, s, m, args, below, meth, c, A, sz, n1, n2, Q, ⟨hx, hb, hml, hown, hts⟩, hK, hN, hR, hE, hA, rfl⟩ := X
  intro H locs ls hP hz hS hl
  exact lv_if_ne hx hb d ht (fun h => kt h H locs ls hP hz hS hl) (fun h => kf (by first | exact h | exact Decidable.not_not.mp h) H locs ls hP hz hS hl)
theorem r_icmp_ne (X : Cx E G own cc nL k J) {x y : Int32} {off : Int} {tgt : Nat} (d : decode cc pc = .ok (.if_icmp .ne off, 3)) (ht : (pc : Int) + off = (tgt : Int)) (kt : ¬ x = y → J S tgt L st) (kf : x = y → J S (pc + 3) L st) : J S pc L (.int y :: .int x :: st) := by
  obtain ⟨p, e, R, s, m, args, below, meth, c, A, sz, n1, n2, Q, ⟨hx, hb, hml, hown, hts⟩, hK, hN, hR, hE, hA, rfl⟩ := X
  intro H locs ls hP hz hS hl
  exact lv_icmp_ne hx hb d ht (fun h => kt h H locs ls hP hz hS hl) (fun h => kf (by first | exact h | exact Decidable.not_not.mp h) H locs ls hP hz hS hl)
theorem r_icmp_neN (X : Cx E G own cc nL k J) {a b : Nat} {off : Int} {tgt : Nat} (d : decode cc pc = .ok (.if_icmp .ne off, 3)) (ht : (pc : Int) + off = (tgt : Int)) (ha : a < 2 ^ 31) (hb : b < 2 ^ 31) (kt : a ≠ b → J S tgt L st) (kf : a = b → J S (pc + 3) L st) : J S pc L (.int (nI b) :: .int (nI a) :: st) :=
  r_icmp_ne X d ht (fun h => kt (fun z => h ((nI_eq ha hb).mpr z))) (fun h => kf ((nI_eq ha hb).mp h))
theorem r_if_neN (X : Cx E G own cc nL k J) {a : Nat} {off : Int} {tgt : Nat} (d : decode cc pc = .ok (.ifCond .ne off, 3)) (ht : (pc : Int) + off = (tgt : Int)) (ha : a < 2 ^ 31) (kt : a ≠ 0 → J S tgt L st) (kf : a = 0 → J S (pc + 3) L st) : J S pc L (.int (nI a) :: st) :=
  r_if_ne X d ht (fun h => kt (fun z => h (by rw [z]; exact nI_0))) (fun h => kf ((nI_eq (b := 0) ha (show (0 : Nat) < 2 ^ 31 by decide)).mp (h.trans nI_0.symm)))
theorem r_if_lt (X : Cx E G own cc nL k J) {x : Int32} {off : Int} {tgt : Nat} (d : decode cc pc = .ok (.ifCond .lt off, 3)) (ht : (pc : Int) + off = (tgt : Int)) (kt : x < 0 → J S tgt L st) (kf : ¬ x < 0 → J S (pc + 3) L st) : J S pc L (.int x :: st) := by
  obtain ⟨p, e, R, s, m, args, below, meth, c, A, sz, n1, n2, Q, ⟨hx, hb, hml, hown, hts⟩, hK, hN, hR, hE, hA, rfl⟩ := X
  intro H locs ls hP hz hS hl
  exact lv_if_lt hx hb d ht (fun h => kt h H locs ls hP hz hS hl) (fun h => kf (by first | exact h | exact Decidable.not_not.mp h) H locs ls hP hz hS hl)
theorem r_icmp_lt (X : Cx E G own cc nL k J) {x y : Int32} {off : Int} {tgt : Nat} (d : decode cc pc = .ok (.if_icmp .lt off, 3)) (ht : (pc : Int) + off = (tgt : Int)) (kt : x < y → J S tgt L st) (kf : ¬ x < y → J S (pc + 3) L st) : J S pc L (.int y :: .int x :: st) := by
  obtain ⟨p, e, R, s, m, args, below, meth, c, A, sz, n1, n2, Q, ⟨hx, hb, hml, hown, hts⟩, hK, hN, hR, hE, hA, rfl⟩ := X
  intro H locs ls hP hz hS hl
  exact lv_icmp_lt hx hb d ht (fun h => kt h H locs ls hP hz hS hl) (fun h => kf (by first | exact h | exact Decidable.not_not.mp h) H locs ls hP hz hS hl)
theorem r_icmp_ltN (X : Cx E G own cc nL k J) {a b : Nat} {off : Int} {tgt : Nat} (d : decode cc pc = .ok (.if_icmp .lt off, 3)) (ht : (pc : Int) + off = (tgt : Int)) (ha : a < 2 ^ 31) (hb : b < 2 ^ 31) (kt : a < b → J S tgt L st) (kf : b ≤ a → J S (pc + 3) L st) : J S pc L (.int (nI b) :: .int (nI a) :: st) :=
  r_icmp_lt X d ht (fun h => kt ((nI_ltI ha hb).mp h)) (fun h => kf (by have h2 : ¬ (a < b) := fun z => h ((nI_ltI ha hb).mpr z); omega))
theorem r_if_ge (X : Cx E G own cc nL k J) {x : Int32} {off : Int} {tgt : Nat} (d : decode cc pc = .ok (.ifCond .ge off, 3)) (ht : (pc : Int) + off = (tgt : Int)) (kt : 0 ≤ x → J S tgt L st) (kf : ¬ 0 ≤ x → J S (pc + 3) L st) : J S pc L (.int x :: st) := by
  obtain ⟨p, e, R, s, m, args, below, meth, c, A, sz, n1, n2, Q, ⟨hx, hb, hml, hown, hts⟩, hK, hN, hR, hE, hA, rfl⟩ := X
  intro H locs ls hP hz hS hl
  exact lv_if_ge hx hb d ht (fun h => kt h H locs ls hP hz hS hl) (fun h => kf (by first | exact h | exact Decidable.not_not.mp h) H locs ls hP hz hS hl)
theorem r_icmp_ge (X : Cx E G own cc nL k J) {x y : Int32} {off : Int} {tgt : Nat} (d : decode cc pc = .ok (.if_icmp .ge off, 3)) (ht : (pc : Int) + off = (tgt : Int)) (kt : y ≤ x → J S tgt L st) (kf : ¬ y ≤ x → J S (pc + 3) L st) : J S pc L (.int y :: .int x :: st) := by
  obtain ⟨p, e, R, s, m, args, below, meth, c, A, sz, n1, n2, Q, ⟨hx, hb, hml, hown, hts⟩, hK, hN, hR, hE, hA, rfl⟩ := X
  intro H locs ls hP hz hS hl
  exact lv_icmp_ge hx hb d ht (fun h => kt h H locs ls hP hz hS hl) (fun h => kf (by first | exact h | exact Decidable.not_not.mp h) H locs ls hP hz hS hl)
theorem r_icmp_geN (X : Cx E G own cc nL k J) {a b : Nat} {off : Int} {tgt : Nat} (d : decode cc pc = .ok (.if_icmp .ge off, 3)) (ht : (pc : Int) + off = (tgt : Int)) (ha : a < 2 ^ 31) (hb : b < 2 ^ 31) (kt : b ≤ a → J S tgt L st) (kf : a < b → J S (pc + 3) L st) : J S pc L (.int (nI b) :: .int (nI a) :: st) :=
  r_icmp_ge X d ht (fun h => kt ((nI_leI hb ha).mp h)) (fun h => kf (by have h2 : ¬ (b ≤ a) := fun z => h ((nI_leI hb ha).mpr z); omega))
theorem r_if_gt (X : Cx E G own cc nL k J) {x : Int32} {off : Int} {tgt : Nat} (d : decode cc pc = .ok (.ifCond .gt off, 3)) (ht : (pc : Int) + off = (tgt : Int)) (kt : 0 < x → J S tgt L st) (kf : ¬ 0 < x → J S (pc + 3) L st) : J S pc L (.int x :: st) := by
  obtain ⟨p, e, R, s, m, args, below, meth, c, A, sz, n1, n2, Q, ⟨hx, hb, hml, hown, hts⟩, hK, hN, hR, hE, hA, rfl⟩ := X
  intro H locs ls hP hz hS hl
  exact lv_if_gt hx hb d ht (fun h => kt h H locs ls hP hz hS hl) (fun h => kf (by first | exact h | exact Decidable.not_not.mp h) H locs ls hP hz hS hl)
theorem r_icmp_gt (X : Cx E G own cc nL k J) {x y : Int32} {off : Int} {tgt : Nat} (d : decode cc pc = .ok (.if_icmp .gt off, 3)) (ht : (pc : Int) + off = (tgt : Int)) (kt : y < x → J S tgt L st) (kf : ¬ y < x → J S (pc + 3) L st) : J S pc L (.int y :: .int x :: st) := by
  obtain ⟨p, e, R, s, m, args, below, meth, c, A, sz, n1, n2, Q, ⟨hx, hb, hml, hown, hts⟩, hK, hN, hR, hE, hA, rfl⟩ := X
  intro H locs ls hP hz hS hl
  exact lv_icmp_gt hx hb d ht (fun h => kt h H locs ls hP hz hS hl) (fun h => kf (by first | exact h | exact Decidable.not_not.mp h) H locs ls hP hz hS hl)
theorem r_icmp_gtN (X : Cx E G own cc nL k J) {a b : Nat} {off : Int} {tgt : Nat} (d : decode cc pc = .ok (.if_icmp .gt off, 3)) (ht : (pc : Int) + off = (tgt : Int)) (ha : a < 2 ^ 31) (hb : b < 2 ^ 31) (kt : b < a → J S tgt L st) (kf : a ≤ b → J S (pc + 3) L st) : J S pc L (.int (nI b) :: .int (nI a) :: st) :=
  r_icmp_gt X d ht (fun h => kt ((nI_ltI hb ha).mp h)) (fun h => kf (by have h2 : ¬ (b < a) := fun z => h ((nI_ltI hb ha).mpr z); omega))
theorem r_if_gtN (X : Cx E G own cc nL k J) {a : Nat} {off : Int} {tgt : Nat} (d : decode cc pc = .ok (.ifCond .gt off, 3)) (ht : (pc : Int) + off = (tgt : Int)) (ha : a < 2 ^ 31) (kt : 0 < a → J S tgt L st) (kf : a = 0 → J S (pc + 3) L st) : J S pc L (.int (nI a) :: st) :=
  r_if_gt X d ht (fun h => kt ((nI_ltI (a := 0) (show (0 : Nat) < 2 ^ 31 by decide) ha).mp (by rw [nI_0]; exact h))) (fun h => kf (by have h2 : ¬ 0 < a := fun z => h (by have h3 := (nI_ltI (a := 0) (show (0 : Nat) < 2 ^ 31 by decide) ha).mpr z; rw [nI_0] at h3; exact h3); omega))
theorem r_if_le (X : Cx E G own cc nL k J) {x : Int32} {off : Int} {tgt : Nat} (d : decode cc pc = .ok (.ifCond .le off, 3)) (ht : (pc : Int) + off = (tgt : Int)) (kt : x ≤ 0 → J S tgt L st) (kf : ¬ x ≤ 0 → J S (pc + 3) L st) : J S pc L (.int x :: st) := by
  obtain ⟨p, e, R, s, m, args, below, meth, c, A, sz, n1, n2, Q, ⟨hx, hb, hml, hown, hts⟩, hK, hN, hR, hE, hA, rfl⟩ := X
  intro H locs ls hP hz hS hl
  exact lv_if_le hx hb d ht (fun h => kt h H locs ls hP hz hS hl) (fun h => kf (by first | exact h | exact Decidable.not_not.mp h) H locs ls hP hz hS hl)
theorem r_icmp_le (X : Cx E G own cc nL k J) {x y : Int32} {off : Int} {tgt : Nat} (d : decode cc pc = .ok (.if_icmp .le off, 3)) (ht : (pc : Int) + off = (tgt : Int)) (kt : x ≤ y → J S tgt L st) (kf : ¬ x ≤ y → J S (pc + 3) L st) : J S pc L (.int y :: .int x :: st) := by
  obtain ⟨p, e, R, s, m, args, below, meth, c, A, sz, n1, n2, Q, ⟨hx, hb, hml, hown, hts⟩, hK, hN, hR, hE, hA, rfl⟩ := X
  intro H locs ls hP hz hS hl
  exact lv_icmp_le hx hb d ht (fun h => kt h H locs ls hP hz hS hl) (fun h => kf (by first | exact h | exact Decidable.not_not.mp h) H locs ls hP hz hS hl)
theorem r_icmp_leN (X : Cx E G own cc nL k J) {a b : Nat} {off : Int} {tgt : Nat} (d : decode cc pc = .ok (.if_icmp .le off, 3)) (ht : (pc : Int) + off = (tgt : Int)) (ha : a < 2 ^ 31) (hb : b < 2 ^ 31) (kt : a ≤ b → J S tgt L st) (kf : b < a → J S (pc + 3) L st) : J S pc L (.int (nI b) :: .int (nI a) :: st) :=
  r_icmp_le X d ht (fun h => kt ((nI_leI ha hb).mp h)) (fun h => kf (by have h2 : ¬ (a ≤ b) := fun z => h ((nI_leI ha hb).mpr z); omega))
theorem r_if_leN (X : Cx E G own cc nL k J) {a : Nat} {off : Int} {tgt : Nat} (d : decode cc pc = .ok (.ifCond .le off, 3)) (ht : (pc : Int) + off = (tgt : Int)) (ha : a < 2 ^ 31) (kt : a = 0 → J S tgt L st) (kf : 0 < a → J S (pc + 3) L st) : J S pc L (.int (nI a) :: st) :=
  r_if_le X d ht (fun h => kt (by have h2 : a ≤ 0 := (nI_leI (b := 0) ha (show (0 : Nat) < 2 ^ 31 by decide)).mp (by rw [nI_0]; exact h); omega)) (fun h => kf (by have h2 : ¬ a ≤ 0 := fun z => h (by have h3 := (nI_leI (b := 0) ha (show (0 : Nat) < 2 ^ 31 by decide)).mpr z; rw [nI_0] at h3; exact h3); omega))
theorem r_goto (X : Cx E G own cc nL k J) {off : Int} {tgt : Nat} (d : decode cc pc = .ok (.goto off, 3)) (ht : (pc : Int) + off = (tgt : Int)) (kk : J S tgt L st) : J S pc L st := by
  obtain ⟨p, e, R, s, m, args, below, meth, c, A, sz, n1, n2, Q, ⟨hx, hb, hml, hown, hts⟩, hK, hN, hR, hE, hA, rfl⟩ := X
  intro H locs ls hP hz hS hl
  exact lv_goto hx hb d ht (kk H locs ls hP hz hS hl)
theorem r_iaddN (X : Cx E G own cc nL k J) {a b : Nat} (d : decode cc pc = .ok (.iadd, 1)) (kk : J S (pc + 1) L (.int (nI (a + b)) :: st)) : J S pc L (.int (nI b) :: .int (nI a) :: st) :=
  r_iadd X d (by rw [nI_add]; exact kk)
theorem r_imulN (X : Cx E G own cc nL k J) {a b : Nat} (d : decode cc pc = .ok (.imul, 1)) (kk : J S (pc + 1) L (.int (nI (a * b)) :: st)) : J S pc L (.int (nI b) :: .int (nI a) :: st) :=
  r_imul X d (by rw [pk_mul]; exact kk)
theorem r_isubN (X : Cx E G own cc nL k J) {a b : Nat} (d : decode cc pc = .ok (.isub, 1)) (h : b ≤ a) (kk : J S (pc + 1) L (.int (nI (a - b)) :: st)) : J S pc L (.int (nI b) :: .int (nI a) :: st) :=
  r_isub X d (by rw [pk_sub h]; exact kk)
theorem r_iremN (X : Cx E G own cc nL k J) {a b : Nat} (d : decode cc pc = .ok (.irem, 1)) (hb0 : 0 < b) (hb : b < 2 ^ 31) (ha : a < 2 ^ 31) (kk : J S (pc + 1) L (.int (nI (a % b)) :: st)) : J S pc L (.int (nI b) :: .int (nI a) :: st) :=
  r_irem X d (nI_ne0 hb0 hb) (by rw [pk_rem ha hb0 hb]; exact kk)
theorem r_idivN (X : Cx E G own cc nL k J) {a b : Nat} (d : decode cc pc = .ok (.idiv, 1)) (hb0 : 0 < b) (hb : b < 2 ^ 31) (ha : a < 2 ^ 31) (kk : J S (pc + 1) L (.int (nI (a / b)) :: st)) : J S pc L (.int (nI b) :: .int (nI a) :: st) :=
  r_idiv X d (nI_ne0 hb0 hb) (by rw [pk_div ha hb0 hb]; exact kk)
theorem r_int {x y : Int32} (h : x = y) (kk : J S pc L (.int y :: st)) : J S pc L (.int x :: st) := h ▸ kk
theorem r_int2 {v : Value} {x y : Int32} (h : x = y) (kk : J S pc L (v :: .int y :: st)) : J S pc L (v :: .int x :: st) := h ▸ kk
theorem r_st {S' : Sg} (h : S = S') (kk : J S' pc L st) : J S pc L st := h ▸ kk
theorem r_pc {pc' : Nat} (h : pc = pc') (kk : J S pc' L st) : J S pc L st := h ▸ kk
theorem r_forget (X : Cx E G own cc nL k J) {L' : List (Option Value)} (hs : ∀ (i : Nat) (v : Value), L'[i]? = some (some v) → L[i]? = some (some v)) (kk : J S pc L' st) : J S pc L st := by
  obtain ⟨p, e, R, s, m, args, below, meth, c, A, sz, n1, n2, Q, ⟨hx, hb, hml, hown, hts⟩, hK, hN, hR, hE, hA, rfl⟩ := X
  intro H locs ls hP hz hS hl
  exact kk H locs ls hP hz hS (lo_forget hl hs)
theorem r_drop (X : Cx E G own cc nL k J) (i : Nat) (kk : J S pc (L.set i none) st) : J S pc L st := by
  refine r_forget X (fun j v h => ?_) kk
  rw [List.getElem?_set] at h
  split at h
  · split at h <;> cases h
  · exact h
def lkF (W : List Cond) (cl : List vw_C) (own : String) (idx ci kf : Nat) : Prop := ∃ (C : String) (T : u_T) (N : Nat), cl[ci]? = some (C, T, N) ∧ kf < N ∧ (∀ w ∈ u_ws C T N, w ∈ W) ∧ Cond.fieldLink own idx (T kf).1 (T kf).2.1 (T kf).2.2.1 ∈ W
theorem r_get (X : Cx E G own cc nL k J) {idx ci kf a : Nat} {F : Int32 → List Value} {v : Value} (hf : lkF (eW E) (eC E) own idx ci kf) (d : decode cc pc = .ok (.getfield idx, 3)) (hG : G a = some (kObj ci F)) (hv : (F (S.2 a))[kf]? = some v) (kk : J S (pc + 3) L (v :: st)) : J S pc L (.ref a :: st) := by
  obtain ⟨p, e, R, s, m, args, below, meth, c, A, sz, n1, n2, Q, ⟨hx, hb, hml, hown, hts⟩, hK, hN, hR, hE, hA, rfl⟩ := X
  intro H locs ls hP hz hS hl
  obtain ⟨C, T, N, hc, hk, hin, hlk⟩ := hf
  exact va_get (ci := ci) (v := v) hx hb hts hin hown hK (hP.one (wl_obj hG)) 0 rfl hc kf hk (hts _ hlk) (fun _ h9 => h9) hv d (kk H locs ls hP hz hS hl)
def lkP (W : List Cond) (cl : List vw_C) (own : String) (idx ci kf : Nat) : Prop := ∃ (C : String) (T : u_T) (N : Nat) (ty : Nat → FieldType), cl[ci]? = some (C, T, N) ∧ kf < N ∧ (∀ w ∈ u_ws C T N, w ∈ W) ∧ Cond.fieldLink own idx (T kf).1 (T kf).2.1 (T kf).2.2.1 ∈ W ∧ (∀ j, j < N → parseFieldDescriptor (T j).2.2.1 = some (ty j)) ∧ (∀ a, a < N → ∀ b, b < N → a ≠ b → (T a).2.1 ≠ (T b).2.1) ∧ (T kf).2.2.2 = false ∧ ty kf = .int
theorem r_put (X : Cx E G own cc nL k J) {idx ci kf a : Nat} {F : Int32 → List Value} {x : Int32} (hf : lkP (eW E) (eC E) own idx ci kf) (d : decode cc pc = .ok (.putfield idx, 3)) (hG : G a = some (kObj ci F)) (hs : (F (S.2 a)).set kf (.int x) = F x) (hl : kf < (F (S.2 a)).length) (kk : J (fdS S a x) (pc + 3) L st) : J S pc L (.int x :: .ref a :: st) := by
  obtain ⟨p, e, R, s, m, args, below, meth, c, A, sz, n1, n2, Q, ⟨hx, hb, hml, hown, hts⟩, hK, hN, hR, hE, hA, rfl⟩ := X
  intro H locs ls hP hz hS hll
  obtain ⟨C, T, N, ty, hc, hk, hin, hlk, hty, hnm, hfin, hti⟩ := hf
  have hap := va_apart (own := own) hts hin ty hty hnm hK hc
  obtain ⟨r, h1, cell, q1, q2, q3, q4⟩ := hP a _ (wl_obj hG)
  have hr : r = (C, T, N) := Option.some.inj (h1.symm.trans hc)
  subst hr
  obtain ⟨hSl, hfc, kC, hkC, hkind⟩ := hK.1 ci _ hc
  obtain ⟨cf, kf', fi, f, hi, hsl⟩ := hSl kf hk
  have hlay := hts _ (hin _ (u_in_lay hk))
  unfold u_lay at hlay
  rw [if_neg (by rw [hfin]; decide)] at hlay
  have hst := (u_facts hfc hkC (u_lays hts hin hk) hi).1
  have hd : parseFieldDescriptor (T kf).2.2.1 = some .int := by rw [hty kf hk, hti]
  have h6 := u_store (v := .int x) hfc hkC hkind hlay hi hd rfl rfl
  refine W.putK hx hb (f := f) ⟨hown, hts _ hlk, ⟨_, _, _, hi⟩, hst⟩ (by rw [q2]; exact h6) q1 q3 (by rw [hsl]; exact k2_hasslot (q4 kf hk)) rfl rfl d fun H' e1 e2 e3 => ?_
  rw [hsl] at e1 ⊢
  refine kk H' _ ls (hP.put e3 (fun q hq => ?_) (fun e he => ?_)) (e2.trans hz) (hS.put e2 e3 (hA a (fun h => by rw [hG] at h; cases h))) hll
  · unfold wl
    rw [fdS_1, fdS_2n hq]
  · rw [wl_obj hG] at he
    cases he
    rw [fdS_2]
    exact ⟨_, hc, t_OB.to (V := updV (vp_V (F (S.2 a))) kf (.int x)) ⟨_, e1, q2, q3, t_set q4 hap hk _⟩ (fun j _ => by rw [vp_updV_set hl, hs])⟩
theorem r_alen (X : Cx E G own cc nL k J) {a n : Nat} (d : decode cc pc = .ok (.arraylength, 1)) (hG : G a = some (kArr n)) (kk : J S (pc + 1) L (.int (nI n) :: st)) : J S pc L (.ref a :: st) := by
  obtain ⟨p, e, R, s, m, args, below, meth, c, A, sz, n1, n2, Q, ⟨hx, hb, hml, hown, hts⟩, hK, hN, hR, hE, hA, rfl⟩ := X
  intro H locs ls hP hz hS hl
  exact va_alen hx hb hK (hP.one (wl_arr hG)) 0 0 rfl hE.2.2 rfl d (kk H locs ls hP hz hS hl)
theorem r_iald (X : Cx E G own cc nL k J) {a n j : Nat} (d : decode cc pc = .ok (.iaload, 1)) (hG : G a = some (kArr n)) (hj : j < n) (hn : n < 2 ^ 31) (kk : J S (pc + 1) L (.int (nI (S.1 a j)) :: st)) : J S pc L (.int (nI j) :: .ref a :: st) := by
  obtain ⟨p, e, R, s, m, args, below, meth, c, A, sz, n1, n2, Q, ⟨hx, hb, hml, hown, hts⟩, hK, hN, hR, hE, hA, rfl⟩ := X
  intro H locs ls hP hz hS hl
  refine va_iald hx hb hK (hP.one (wl_arr hG)) 0 0 rfl hE.2.2 (vp_in_nI hj hn) d ?_
  rw [nI_clamp (Nat.lt_trans hj hn)]
  exact kk H locs ls hP hz hS hl
theorem r_iast (X : Cx E G own cc nL k J) {a n j v : Nat} (d : decode cc pc = .ok (.iastore, 1)) (hG : G a = some (kArr n)) (hj : j < n) (hn : n < 2 ^ 31) (kk : J (arS S a (va_up (S.1 a) j v)) (pc + 1) L st) : J S pc L (.int (nI v) :: .int (nI j) :: .ref a :: st) := by
  obtain ⟨p, e, R, s, m, args, below, meth, c, A, sz, n1, n2, Q, ⟨hx, hb, hml, hown, hts⟩, hK, hN, hR, hE, hA, rfl⟩ := X
  intro H locs ls hP hz hS hll
  have hc := hP a _ (wl_arr hG)
  have hin : vp_in (nI j) n := vp_in_nI hj hn
  refine W.iast hx hb hc ((hK.2 0 _ hE.2.2).1 n (fun i => .int (nI (S.1 a i)))) (fun q => by cases q) (by show ¬ (nI j < 0 ∨ (arrV _ _ _).slots.size ≤ _); rw [arrV_size]; exact hin) rfl rfl d fun H1 e z oq => ?_
  refine kk H1 _ ls (hP.put oq (fun q hq => ?_) (fun e' he => ?_)) (z.trans hz) (hS.put z oq (hA a (fun h => by rw [hG] at h; cases h))) hll
  · unfold wl
    rw [arS_1n hq, arS_2]
  · rw [wl_arr hG] at he
    cases he
    show H1[a]? = some (vp_cell _ _)
    rw [e]
    rw [vp_cell_i, vp_cell_i, arrV_store, arS_1, nI_clamp (Nat.lt_trans hj hn)]
    congr 2
    funext q
    by_cases hq : q = j
    · subst hq
      simp [updV, va_up]
    · simp [updV, va_up, hq]
theorem r_aald (X : Cx E G own cc nL k J) {a n j q : Nat} {cA : ClassId} {C : String} {f : Nat → Option Nat} (d : decode cc pc = .ok (.aaload, 1)) (hG : G a = some (kFix (.inl (cA, n, .inr (.inr (.inr (.inr f))))))) (hT : (eT E)[1]? = some (cA, .object C)) (hj : j < n) (hn : n < 2 ^ 31) (hf : f j = some q) (kk : J S (pc + 1) L (.ref q :: st)) : J S pc L (.int (nI j) :: .ref a :: st) := by
  obtain ⟨p, e, R, s, m, args, below, meth, c, A, sz, n1, n2, Q, ⟨hx, hb, hml, hown, hts⟩, hK, hN, hR, hE, hA, rfl⟩ := X
  intro H locs ls hP hz hS hl
  refine va_aldq hx hb hK (hP.one (wl_fix hG)) 0 1 rfl hT (vp_in_nI hj hn) d ?_
  rw [nI_clamp (Nat.lt_trans hj hn), hf]
  exact kk H locs ls hP hz hS hl
theorem r_run {p : Program} {e : Env} {R : Room} {s : State} {m : MethodId} {args : Array Value} {below : List Frame} {meth : Method} {c : Code} {H : Heap} {locs : List Loc} {n1 n2 : Nat} {Q : State → Prop} {A : Nat → Prop} {ls : Array Slot} {rest : List Value} {a : Array Value} {post : Sg → Option Value → Prop} (hr : va_Run p (eL E) e R s m args below meth c H locs n1 n2 0 0 (F0 m pc ls st) rest (wQ E G post a) (dG G)) (hS : va_S A s.heap H locs) (hA : ∀ q, dG G q → A q)
    (kk : ∀ (S' : Sg) (v : Option Value) (H1 : Heap) (locs1 : List Loc), post S' v → wP E G S' H1 → H1.size = H.size → va_S A s.heap H1 locs1 → W p (eL E) e R s m args below meth c H1 locs1 n1 n2 Q (F0 m (pc + 3) ls (v.toList ++ rest))) : W p (eL E) e R s m args below meth c H locs n1 n2 Q (F0 m pc ls st) := by
  intro T hT X
  obtain ⟨v, st₀, t, T', L, h0, X', hL, e1, e2, ⟨⟨S', v', hv, hp, hb⟩, hzz, hz, hk⟩, sst⟩ := hr T hT X
  cases hv
  rw [h0] at hzz hz hk
  obtain ⟨t2, a1, b1⟩ := kk S' v T'.heap (locs ++ L) hp (by rw [e1]; exact hb) (by rw [e1]; exact hzz)
    ⟨Nat.le_trans hS.1 (by rw [e1]; exact hz), fun q h1 h2 => by rw [e1, hk q (Nat.lt_of_lt_of_le h1 hS.1) (fun z => h2 (hA q z))]; exact hS.2.1 q h1 h2, fun q hq => by
      rcases List.mem_append.mp hq with h | h
      · exact hS.2.2 q h
      · exact hA _ (hL q h)⟩ T' rfl X'
  exact ⟨t2, sst t2 a1, b1⟩
theorem wPc_blind {av : List Value} (hE : eOK E) : FrameBlind (va_Pc av (wPc E G S)) := by
  intro a U g mk q
  obtain ⟨q0, qP, qK, qN⟩ := q
  exact ⟨q0, qP, va_K.moved (u := U) (U := U.calling g mk a) (Vm.Alike.refl U.vm) qK, fun w hw => nw_same (hE.2.1 w hw) (s := U) (U := U.calling g mk a) rfl (qN w hw)⟩
theorem wPc_at {s : State} {H : Heap} {av : List Value} (hE : eOK E) (hP : wP E G S H) (hK : va_K (eD E) (eC E) (eT E) s) (hN : ∀ w ∈ eN E, va_Nw w s) : ∀ U : State, U.heap = H → s.WarmedH U.vm → va_Pc av (wPc E G S) av.toArray U :=
  fun U hU hW => ⟨rfl, by rw [hU]; exact hP, va_K.moved hW.alike hK, fun w hw => nw_warm (hE.2.1 w hw) hW (hN w hw)⟩
theorem gd_in {y : MethodName} {c2 : ByteArray} {nL2 : Nat} {ret2 : Option FieldType} (hE : eOK E) (hc : Cond.code y c2 nL2 ret2 ∈ eW E) : GoodIn (eW E) (Cond.code y c2 nL2 ret2 :: eW E) := by
  intro w hw
  rcases List.mem_cons.mp hw with rfl | h
  · exact ⟨hc, hE.1 _ hc⟩
  · exact ⟨h, hE.1 _ h⟩
def lkS (W : List Cond) (own : String) (idx : Nat) (y : MethodName) (c2 : ByteArray) (nL2 : Nat) (ret2 : Option FieldType) (n : Nat) : Prop :=
  Cond.code y c2 nL2 ret2 ∈ W ∧ Cond.methodLink own idx y ∈ W ∧ Cond.static y ∈ W ∧ Cond.initialized y.cls ∈ W ∧ (y.cls ≠ "java/lang/invoke/MethodHandle" ∧ y.cls ≠ "java/lang/invoke/VarHandle" ∧ (parseMethodDescriptor y.desc).map (fun d => d.parameters.length) = some n) ∧ nL2 ≤ 21
theorem r_callS (X : Cx E G own cc nL k J) {idx nL2 n k2 : Nat} {y : MethodName} {c2 : ByteArray} {ret2 : Option FieldType} {As rest : List Value} {post : Sg → Option Value → Prop} (hl : lkS (eW E) own idx y c2 nL2 ret2 n) (hM : CT E G y c2 nL2 ret2 k2 As S post) (hk : k2 + 1 ≤ k) (hn : As.length = n) (hw : (rest.map fun v => v.category).sum ≤ 8) (d : decode cc pc = .ok (.invokestatic idx, 3)) (hst : st = As.reverse ++ rest)
    (kk : ∀ (S' : Sg) (v : Option Value), post S' v → J S' (pc + 3) L (v.toList ++ rest)) : J S pc L st := by
  obtain ⟨p, e, R, s, m, args, below, meth, c, A, sz, n1, n2, Q, ⟨hx, hb, hml, hown, hts⟩, hK, hN, hR, hE, hA, rfl⟩ := X
  intro H locs ls hP hz hS hll
  obtain ⟨w1, w2, w3, w4, w5, w6⟩ := hl
  subst hst
  refine r_run (va_runS (cc := cc) (nL := nL) (Ts := eW E) (own := own) (As := As) (rest := rest) ⟨hx, hb, hml, hown, hts⟩ hM ⟨callB_of n hts (gd_in hE w1) rfl rfl rfl (hts _ w4) (hts _ w2) w5 ⟨by show k2 + 1 ≤ R.frames; omega, by show 8 + (nL2 + 11) + 40 * k2 ≤ R.locals; omega⟩, hts _ w3⟩ ⟨wPc_blind hE, wPc_at hE hP hK hN⟩ rfl hn hll.1.1 rfl (lv_room hw) d ⟨hR.2.2.1, hR.2.2.2⟩) hS hA (fun S' v H1 locs1 hp hP1 hz1 hS1 => kk S' v hp H1 locs1 ls hP1 (hz1.trans hz) hS1 hll)
def lkV (W : List Cond) (cl : List vw_C) (own : String) (idx ci : Nat) (y : MethodName) (c2 : ByteArray) (nL2 : Nat) (ret2 : Option FieldType) (n : Nat) : Prop :=
  Cond.code y c2 nL2 ret2 ∈ W ∧ Cond.methodLink own idx y ∈ W ∧ Cond.instanceMethod y ∈ W ∧ Cond.selects y.cls y y ∈ W ∧ Cond.initialized y.cls ∈ W ∧ (y.cls ≠ "java/lang/invoke/MethodHandle" ∧ y.cls ≠ "java/lang/invoke/VarHandle" ∧ (parseMethodDescriptor y.desc).map (fun d => d.parameters.length) = some n) ∧ nL2 ≤ 21 ∧ ∃ q : vw_C, cl[ci]? = some q ∧ q.1 = y.cls
theorem r_callV (X : Cx E G own cc nL k J) {idx ci nL2 n k2 b : Nat} {F : Int32 → List Value} {y : MethodName} {c2 : ByteArray} {ret2 : Option FieldType} {As rest : List Value} {post : Sg → Option Value → Prop} (hl : lkV (eW E) (eC E) own idx ci y c2 nL2 ret2 n) (hM : CT E G y c2 nL2 ret2 k2 (.ref b :: As) S post) (hG : G b = some (kObj ci F)) (hk : k2 + 1 ≤ k) (hn : As.length = n) (hw : (rest.map fun v => v.category).sum ≤ 8) (d : decode cc pc = .ok (.invokevirtual idx, 3)) (hst : st = As.reverse ++ .ref b :: rest)
    (kk : ∀ (S' : Sg) (v : Option Value), post S' v → J S' (pc + 3) L (v.toList ++ rest)) : J S pc L st := by
  obtain ⟨p, e, R, s, m, args, below, meth, c, A, sz, n1, n2, Q, ⟨hx, hb, hml, hown, hts⟩, hK, hN, hR, hE, hA, rfl⟩ := X
  intro H locs ls hP hz hS hll
  obtain ⟨w1, w2, w3, w7, w4, w5, w6, q, hq, hqy⟩ := hl
  subst hst
  have hrv := va_recv hK (hP.one (wl_obj hG)) hq (q0 := 0) rfl
  rw [hqy] at hrv
  refine r_run (va_runV (cc := cc) (nL := nL) (Ts := eW E) (own := own) (C := y.cls) (b := b) (As := As) (rest := rest) ⟨hx, hb, hml, hown, hts⟩ hM ⟨callB_of n hts (gd_in hE w1) rfl rfl rfl (hts _ w4) (hts _ w2) w5 ⟨by show k2 + 1 ≤ R.frames; omega, by show 8 + (nL2 + 11) + 40 * k2 ≤ R.locals; omega⟩, hts _ w3, hts _ w7⟩ ⟨wPc_blind hE, hrv, wPc_at hE hP hK hN⟩ rfl hn hll.1.1 rfl (lv_room hw) d ⟨hR.2.2.1, hR.2.2.2⟩) hS hA (fun S' v H1 locs1 hp hP1 hz1 hS1 => kk S' v hp H1 locs1 ls hP1 (hz1.trans hz) hS1 hll)
end RW
def Pv (q : Sg → Prop) : Sg → Option Value → Prop := fun S v => v = none ∧ q S
def Pi (q : Sg → Int32 → Prop) : Sg → Option Value → Prop := fun S v => ∃ x : Int32, v = some (.int x) ∧ q S x
section RX
variable {E : Ev} {G : Gm} {own : String} {cc : ByteArray} {nL k : Nat} {J : Jt} {S : Sg} {pc : Nat} {L : List (Option Value)} {st : List Value}
theorem r_cSi (X : Cx E G own cc nL k J) {idx nL2 n k2 : Nat} {y : MethodName} {c2 : ByteArray} {ret2 : Option FieldType} {As rest : List Value} {q : Sg → Int32 → Prop} (hl : lkS (eW E) own idx y c2 nL2 ret2 n) (hM : CT E G y c2 nL2 ret2 k2 As S (Pi q)) (hk : k2 + 1 ≤ k) (hn : As.length = n) (hw : (rest.map fun v => v.category).sum ≤ 8) (d : decode cc pc = .ok (.invokestatic idx, 3)) (hst : st = As.reverse ++ rest)
    (kk : ∀ (S' : Sg) (x : Int32), q S' x → J S' (pc + 3) L (.int x :: rest)) : J S pc L st :=
  r_callS X hl hM hk hn hw d hst (fun S' v ⟨x, hv, hq⟩ => by subst hv; exact kk S' x hq)
theorem r_cSv (X : Cx E G own cc nL k J) {idx nL2 n k2 : Nat} {y : MethodName} {c2 : ByteArray} {ret2 : Option FieldType} {As rest : List Value} {q : Sg → Prop} (hl : lkS (eW E) own idx y c2 nL2 ret2 n) (hM : CT E G y c2 nL2 ret2 k2 As S (Pv q)) (hk : k2 + 1 ≤ k) (hn : As.length = n) (hw : (rest.map fun v => v.category).sum ≤ 8) (d : decode cc pc = .ok (.invokestatic idx, 3)) (hst : st = As.reverse ++ rest)
    (kk : ∀ (S' : Sg), q S' → J S' (pc + 3) L rest) : J S pc L st :=
  r_callS X hl hM hk hn hw d hst (fun S' v ⟨hv, hq⟩ => by subst hv; exact kk S' hq)
theorem r_cVi (X : Cx E G own cc nL k J) {idx ci nL2 n k2 b : Nat} {F : Int32 → List Value} {y : MethodName} {c2 : ByteArray} {ret2 : Option FieldType} {As rest : List Value} {q : Sg → Int32 → Prop} (hl : lkV (eW E) (eC E) own idx ci y c2 nL2 ret2 n) (hM : CT E G y c2 nL2 ret2 k2 (.ref b :: As) S (Pi q)) (hG : G b = some (kObj ci F)) (hk : k2 + 1 ≤ k) (hn : As.length = n) (hw : (rest.map fun v => v.category).sum ≤ 8) (d : decode cc pc = .ok (.invokevirtual idx, 3)) (hst : st = As.reverse ++ .ref b :: rest)
    (kk : ∀ (S' : Sg) (x : Int32), q S' x → J S' (pc + 3) L (.int x :: rest)) : J S pc L st :=
  r_callV X hl hM hG hk hn hw d hst (fun S' v ⟨x, hv, hq⟩ => by subst hv; exact kk S' x hq)
theorem r_cVv (X : Cx E G own cc nL k J) {idx ci nL2 n k2 b : Nat} {F : Int32 → List Value} {y : MethodName} {c2 : ByteArray} {ret2 : Option FieldType} {As rest : List Value} {q : Sg → Prop} (hl : lkV (eW E) (eC E) own idx ci y c2 nL2 ret2 n) (hM : CT E G y c2 nL2 ret2 k2 (.ref b :: As) S (Pv q)) (hG : G b = some (kObj ci F)) (hk : k2 + 1 ≤ k) (hn : As.length = n) (hw : (rest.map fun v => v.category).sum ≤ 8) (d : decode cc pc = .ok (.invokevirtual idx, 3)) (hst : st = As.reverse ++ .ref b :: rest)
    (kk : ∀ (S' : Sg), q S' → J S' (pc + 3) L rest) : J S pc L st :=
  r_callV X hl hM hG hk hn hw d hst (fun S' v ⟨hv, hq⟩ => by subst hv; exact kk S' hq)
end RX
section RY
variable {E : Ev} {G : Gm} {own : String} {cc : ByteArray} {nL k : Nat} {J : Jt} {S : Sg} {pc : Nat} {L : List (Option Value)} {st : List Value}
def lkM (W : List Cond) (own : String) (idx : Nat) (y : MethodName) (c2 : ByteArray) (n : Nat) : Prop := Cond.methodLink own idx y ∈ W ∧ Cond.static y ∈ W ∧ Cond.initialized "java/lang/Math" ∈ W ∧ Cond.code y c2 n (some .int) ∈ W
theorem r_mmax (X : Cx E G own cc nL k J) {idx : Nat} {x y : Int32} (hl : lkM (eW E) own idx Lib.Math.max.name Lib.Math.max.code 2) (hk : 1 ≤ k) (hw : (st.map fun v => v.category).sum ≤ 8) (d : decode cc pc = .ok (.invokestatic idx, 3)) (kk : J S (pc + 3) L (.int (if x < y then y else x) :: st)) : J S pc L (.int y :: .int x :: st) := by
  obtain ⟨p, e, R, s, m, args, below, meth, c, A, sz, n1, n2, Q, ⟨hx, hb, hml, hown, hts⟩, hK, hN, hR, hE, hA, rfl⟩ := X
  intro H locs ls hP hz hS hll
  exact va_mmax hx hb (hml.trans hll.1.1.symm) hown (hts _ hl.1) (hts _ hl.2.1) (hts _ hl.2.2.1) (hts _ hl.2.2.2) (by omega) (by omega) hR.2.2.1 hR.2.2.2 d (kk H locs ls hP hz hS hll)
theorem r_mmin (X : Cx E G own cc nL k J) {idx : Nat} {x y : Int32} (hl : lkM (eW E) own idx Lib.Math.min.name Lib.Math.min.code 2) (hk : 1 ≤ k) (hw : (st.map fun v => v.category).sum ≤ 8) (d : decode cc pc = .ok (.invokestatic idx, 3)) (kk : J S (pc + 3) L (.int (if y < x then y else x) :: st)) : J S pc L (.int y :: .int x :: st) := by
  obtain ⟨p, e, R, s, m, args, below, meth, c, A, sz, n1, n2, Q, ⟨hx, hb, hml, hown, hts⟩, hK, hN, hR, hE, hA, rfl⟩ := X
  intro H locs ls hP hz hS hll
  exact va_mmin hx hb (hml.trans hll.1.1.symm) hown (hts _ hl.1) (hts _ hl.2.1) (hts _ hl.2.2.1) (hts _ hl.2.2.2) (by omega) (by omega) hR.2.2.1 hR.2.2.2 d (kk H locs ls hP hz hS hll)
theorem r_mabs (X : Cx E G own cc nL k J) {idx : Nat} {x : Int32} (hl : lkM (eW E) own idx Lib.Math.abs.name Lib.Math.abs.code 1) (hk : 1 ≤ k) (hw : (st.map fun v => v.category).sum ≤ 8) (d : decode cc pc = .ok (.invokestatic idx, 3)) (kk : J S (pc + 3) L (.int (if 0 ≤ x then x else 0 - x) :: st)) : J S pc L (.int x :: st) := by
  obtain ⟨p, e, R, s, m, args, below, meth, c, A, sz, n1, n2, Q, ⟨hx, hb, hml, hown, hts⟩, hK, hN, hR, hE, hA, rfl⟩ := X
  intro H locs ls hP hz hS hll
  exact va_mabs hx hb (hml.trans hll.1.1.symm) hown (hts _ hl.1) (hts _ hl.2.1) (hts _ hl.2.2.1) (hts _ hl.2.2.2) (by omega) (by omega) hR.2.2.1 hR.2.2.2 d (kk H locs ls hP hz hS hll)
theorem r_mmaxN (X : Cx E G own cc nL k J) {idx a b : Nat} (hl : lkM (eW E) own idx Lib.Math.max.name Lib.Math.max.code 2) (hk : 1 ≤ k) (hw : (st.map fun v => v.category).sum ≤ 8) (ha : a < 2 ^ 31) (hb : b < 2 ^ 31) (d : decode cc pc = .ok (.invokestatic idx, 3)) (kk : J S (pc + 3) L (.int (nI (max a b)) :: st)) : J S pc L (.int (nI b) :: .int (nI a) :: st) := by
  refine r_mmax X hl hk hw d ?_
  rw [show (if nI a < nI b then nI b else nI a) = nI (max a b) by
    by_cases h : a < b
    · rw [if_pos ((nI_ltI ha hb).mpr h), Nat.max_eq_right (by omega)]
    · rw [if_neg (fun z => h ((nI_ltI ha hb).mp z)), Nat.max_eq_left (by omega)]]
  exact kk
theorem r_mminN (X : Cx E G own cc nL k J) {idx a b : Nat} (hl : lkM (eW E) own idx Lib.Math.min.name Lib.Math.min.code 2) (hk : 1 ≤ k) (hw : (st.map fun v => v.category).sum ≤ 8) (ha : a < 2 ^ 31) (hb : b < 2 ^ 31) (d : decode cc pc = .ok (.invokestatic idx, 3)) (kk : J S (pc + 3) L (.int (nI (min a b)) :: st)) : J S pc L (.int (nI b) :: .int (nI a) :: st) := by
  refine r_mmin X hl hk hw d ?_
  rw [show (if nI b < nI a then nI b else nI a) = nI (min a b) by
    by_cases h : b < a
    · rw [if_pos ((nI_ltI hb ha).mpr h), Nat.min_eq_right (by omega)]
    · rw [if_neg (fun z => h ((nI_ltI hb ha).mp z)), Nat.min_eq_left (by omega)]]
  exact kk
def lkY (W : List Cond) (own : String) (idx : Nat) : Prop := Cond.methodLink own idx arraycopyName ∈ W ∧ Cond.native arraycopyName ∈ W ∧ Cond.static arraycopyName ∈ W ∧ Cond.initialized "java/lang/System" ∈ W
theorem cpy_nI (f g : Nat → Nat) (sp dp n : Nat) : va_cpy (fun i => nI (f i)) (fun i => nI (g i)) sp dp n = fun i => nI (va_cpy f g sp dp n i) := by
  funext i
  unfold va_cpy
  split <;> rfl
theorem r_copy (X : Cx E G own cc nL k J) {idx a0 a n0 n1 sp dp n : Nat} (hl : lkY (eW E) own idx) (hk : 1 ≤ k) (hG0 : G a0 = some (kArr n0)) (hG1 : G a = some (kArr n1)) (h4 : sp + n ≤ n0) (h5 : dp + n ≤ n1) (hb0 : n0 < 2 ^ 31) (hb1 : n1 < 2 ^ 31) (hst : st = []) (d : decode cc pc = .ok (.invokestatic idx, 3)) (kk : J (arS S a (va_cpy (S.1 a0) (S.1 a) sp dp n)) (pc + 3) L st) : J S pc L (.int (nI n) :: .int (nI dp) :: .ref a :: .int (nI sp) :: .ref a0 :: st) := by
  obtain ⟨p, e, R, s, m, args, below, meth, c, A, sz, m1, m2, Q, ⟨hx, hb, hml, hown, hts⟩, hK, hN, hR, hE, hA, rfl⟩ := X
  intro H locs ls hP hz hS hll
  subst hst
  have hc0 : H[a0]? = some (vp_cell (eI E) (n0, .inl (fun i => nI (S.1 a0 i)))) := hP a0 _ (wl_arr hG0)
  have hc1 : H[a]? = some (vp_cell (eI E) (n1, .inl (fun i => nI (S.1 a i)))) := hP a _ (wl_arr hG1)
  have nn : ∀ z : Nat, z < 2 ^ 31 → (nI z).toInt = (z : Int) := fun z hz => nI_toInt hz
  have ks : (nI sp).toNatClampNeg = sp := nI_clamp (by omega)
  have kd : (nI dp).toNatClampNeg = dp := nI_clamp (by omega)
  have kn : (nI n).toNatClampNeg = n := nI_clamp (by omega)
  intro T hT X
  obtain ⟨-, k0, hk0, cm0, hkk0⟩ := (hK.2 0 _ hE.2.2).1 n0 (fun j => .int (nI (S.1 a0 j)))
  obtain ⟨-, k1, hk1, cm1, hkk1⟩ := (hK.2 0 _ hE.2.2).1 n1 (fun j => .int (nI (S.1 a j)))
  obtain ⟨vm', X', step⟩ := X.arraycopy hx hown (hts _ hl.1) (hts _ hl.2.1) (hts _ hl.2.2.1) (hts _ hl.2.2.2) (src := a0) (dst := a) (cs := vp_cell (eI E) (n0, .inl (fun i => nI (S.1 a0 i)))) (cd := vp_cell (eI E) (n1, .inl (fun i => nI (S.1 a i)))) (srcPos := nI sp) (destPos := nI dp) (n := nI n) (by rw [hT]; exact hc0) (by rw [hT]; exact hc1)
    (fun _ h => by cases h) (fun _ h => by cases h) (fun h => by cases h) (fun h => by cases h) hk0 hk1 hkk0 hkk1 (by simp [refKind]) (nI_pos (by omega)) (nI_pos (by omega)) (nI_pos (by omega))
    (by rw [nn sp (by omega), nn n (by omega)]; show ¬ _ > ((arrV (eI E) n0 (fun j => .int (nI (S.1 a0 j)))).slots.size : Int); rw [arrV_size]; omega)
    (by rw [nn dp (by omega), nn n (by omega)]; show ¬ _ > ((arrV (eI E) n1 (fun j => .int (nI (S.1 a j)))).slots.size : Int); rw [arrV_size]; omega)
    (fun vm₁ _ i hi => by
      have e : (vp_cell (eI E) (n0, .inl (fun i => nI (S.1 a0 i)))).slots.getD ((nI sp).toNatClampNeg + i) .null = .int (nI (S.1 a0 ((nI sp).toNatClampNeg + i))) := by
        show (arrV (eI E) n0 (fun j => .int (nI (S.1 a0 j)))).slots.getD _ _ = _
        rw [Array.getD_eq_getD_getElem?, arrV_read _ _ (by rw [ks]; rw [kn] at hi; omega)]
        rfl
      refine ⟨?_, ?_⟩
      · rw [e]
        rfl
      · rw [e]
        exact trivial)
    (g := F0 m pc ls (.int (nI n) :: .int (nI dp) :: .ref a :: .int (nI sp) :: .ref a0 :: [])) rfl (by rw [hml]; exact hll.1.1) (rest := []) rfl (by rw [hb]; exact d) (by omega) (by
      have hq : 2 * 0 + 0 + (nativeFrameWords "java/lang/System" "arraycopy" 5 + 11) ≤ 40 := by decide
      show 2 * 0 + 0 + (nativeFrameWords "java/lang/System" "arraycopy" 5 + 11) ≤ R.locals
      omega)
  have e1 : copied (vp_cell (eI E) (n0, .inl (fun i => nI (S.1 a0 i)))) (vp_cell (eI E) (n1, .inl (fun i => nI (S.1 a i)))) (nI sp) (nI dp) (nI n) = vp_cell (eI E) (n1, .inl (va_cpy (fun i => nI (S.1 a0 i)) (fun i => nI (S.1 a i)) (nI sp).toNatClampNeg (nI dp).toNatClampNeg (nI n).toNatClampNeg)) := va_copied (fun z => .int z) (eI E) (eI E) (n0 := n0) (n1 := n1) (sp := (nI sp).toNatClampNeg) (dp := (nI dp).toNatClampNeg) (n := (nI n).toNatClampNeg) (fun i => nI (S.1 a0 i)) (fun i => nI (S.1 a i)) (by rw [ks, kn]; exact h4)
  rw [ks, kd, kn, cpy_nI] at e1
  rw [e1] at X' step
  have hl2 : a < H.size := (Array.getElem?_eq_some_iff.mp hc1).1
  have oq : ∀ (x : Cell) (q : Nat), q ≠ a → (H.setIfInBounds a x)[q]? = H[q]? := fun x q hq => by simp [Array.getElem?_setIfInBounds, Ne.symm hq]
  obtain ⟨t, a1, b1⟩ := kk _ _ ls (hP.put (oq _) (fun q hq => by unfold wl; rw [arS_1n hq, arS_2]) (fun e' he => by
      rw [wl_arr hG1] at he
      cases he
      rw [arS_1]
      show (H.setIfInBounds a _)[a]? = some _
      simp [Array.getElem?_setIfInBounds, hl2]
      try rfl)) (by simp; exact hz) ⟨by simp; exact hS.1, fun q g1 g2 => by
      rw [oq _ q (fun e => g2 (by rw [e]; exact hA a (fun h => by rw [hG1] at h; cases h)))]
      exact hS.2.1 q g1 g2, fun q hq => by
      rcases List.mem_append.mp hq with h | h
      · exact hS.2.2 q h
      · obtain ⟨z, -, hz⟩ := List.mem_map.mp h
        rw [← hz]
        exact hA a (fun h => by rw [hG1] at h; cases h)⟩ hll _ (show ((T.setVm vm').setCell a _).heap = H.setIfInBounds a _ by rw [← hT]; rfl) X'
  exact ⟨t, step t a1, b1⟩
end RY
