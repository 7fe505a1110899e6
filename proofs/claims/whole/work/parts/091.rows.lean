theorem up_lt {α : Type} (g f : Nat → α) (i : Nat) : va_up (fun j => if j < i then g j else f j) i (g i) = fun j => if j < i + 1 then g j else f j := by
  funext j
  unfold va_up
  by_cases h : j = i
  · subst h
    simp
  · by_cases h2 : j < i
    · simp [h, h2, Nat.lt_succ_of_lt h2]
    · have h3 : ¬ j < i + 1 := by omega
      simp [h, h2, h3]
theorem up_ge {α : Type} (g f : Nat → α) (i : Nat) : va_up (fun j => if i + 1 ≤ j then g j else f j) i (g i) = fun j => if i ≤ j then g j else f j := by
  funext j
  unfold va_up
  by_cases h : j = i
  · subst h
    simp
  · by_cases h2 : i + 1 ≤ j
    · have h3 : i ≤ j := by omega
      simp [h, h2, h3]
    · have h3 : ¬ i ≤ j := by omega
      simp [h, h2, h3]
theorem if_lt0 {α : Type} (g f : Nat → α) : (fun j => if j < 0 then g j else f j) = f := by
  funext j
  simp
section R2
variable {E : Ev} {G : Gm} {own : String} {cc : ByteArray} {nL k : Nat} {J : Jt} {S : Sg} {pc : Nat} {L : List (Option Value)} {st : List Value}
theorem r_iincN (X : Cx E G own cc nL k J) {i : Nat} {n : Int} {a : Nat} (b : Nat) (d : decode cc pc = .ok (.iinc i n, 3)) (h : L[i]? = some (some (.int (nI a)))) (hn : Int32.ofInt n = nI b) (hi : i < nL) (kk : J S (pc + 3) (L.set i (some (.int (nI (a + b))))) st) : J S pc L st :=
  r_iinc X d h (by rw [hn, nI_add]) hi kk
theorem nI_m1 (a : Nat) : nI a + Int32.ofInt (-1) = tI a := by
  unfold tI
  rw [Int32.sub_eq_add_neg]
  congr 1
theorem r_iincD (X : Cx E G own cc nL k J) {i : Nat} {a : Nat} (d : decode cc pc = .ok (.iinc i (-1), 3)) (h : L[i]? = some (some (.int (nI a)))) (hi : i < nL) (kk : J S (pc + 3) (L.set i (some (.int (tI a)))) st) : J S pc L st :=
  r_iinc X d h (nI_m1 a) hi kk
theorem tI_add (t : Nat) : tI t + nI 1 = nI t := by
  unfold tI
  rw [Int32.sub_eq_add_neg, Int32.add_assoc, Int32.add_comm (-nI 1), Int32.add_right_neg, Int32.add_zero]
theorem tI_toInt {t : Nat} (h : t < 2 ^ 30) : (tI t).toInt = (t : Int) - 1 := by
  have := pk_sub_toInt (a := t) (b := 1) h (by decide)
  exact this
theorem r_icmp_geT (X : Cx E G own cc nL k J) {a t : Nat} {off : Int} {tgt : Nat} (d : decode cc pc = .ok (.if_icmp .ge off, 3)) (ht : (pc : Int) + off = (tgt : Int)) (ha : a < 2 ^ 30) (hb : t < 2 ^ 30) (kt : t ≤ a + 1 → J S tgt L st) (kf : a + 1 < t → J S (pc + 3) L st) : J S pc L (.int (tI t) :: .int (nI a) :: st) := by
  have e1 := tI_toInt hb
  have e2 := nI_toInt (n := a) (by omega)
  refine r_icmp_ge X d ht (fun h => kt ?_) (fun h => kf ?_)
  · rw [Int32.le_iff_toInt_le, e1, e2] at h; omega
  · rw [Int32.le_iff_toInt_le, e1, e2] at h; omega
theorem r_icmp_gtT (X : Cx E G own cc nL k J) {a t : Nat} {off : Int} {tgt : Nat} (d : decode cc pc = .ok (.if_icmp .gt off, 3)) (ht : (pc : Int) + off = (tgt : Int)) (ha : a < 2 ^ 30) (hb : t < 2 ^ 30) (kt : t ≤ a → J S tgt L st) (kf : a < t → J S (pc + 3) L st) : J S pc L (.int (tI t) :: .int (nI a) :: st) := by
  have e1 := tI_toInt hb
  have e2 := nI_toInt (n := a) (by omega)
  refine r_icmp_gt X d ht (fun h => kt ?_) (fun h => kf ?_)
  · rw [Int32.lt_iff_toInt_lt, e1, e2] at h; omega
  · rw [Int32.lt_iff_toInt_lt, e1, e2] at h; omega
theorem r_icmp_eqT (X : Cx E G own cc nL k J) {a t : Nat} {off : Int} {tgt : Nat} (d : decode cc pc = .ok (.if_icmp .eq off, 3)) (ht : (pc : Int) + off = (tgt : Int)) (ha : a < 2 ^ 30) (hb : t < 2 ^ 30) (kt : a = t → J S tgt L st) (kf : a ≠ t → J S (pc + 3) L st) : J S pc L (.int (tI t) :: .int (tI a) :: st) := by
  have e1 := tI_toInt hb
  have e2 := tI_toInt ha
  refine r_icmp_eq X d ht (fun h => kt ?_) (fun h => kf (fun z => h (by rw [z])))
  have := congrArg Int32.toInt h
  rw [e1, e2] at this; omega
theorem r_if_ltT (X : Cx E G own cc nL k J) {t : Nat} {off : Int} {tgt : Nat} (d : decode cc pc = .ok (.ifCond .lt off, 3)) (ht : (pc : Int) + off = (tgt : Int)) (hb : t < 2 ^ 30) (kt : t = 0 → J S tgt L st) (kf : ∀ u, t = u + 1 → J S (pc + 3) L st) : J S pc L (.int (tI t) :: st) := by
  have e1 := tI_toInt hb
  refine r_if_lt X d ht (fun h => kt ?_) (fun h => kf (t - 1) ?_)
  · rw [Int32.lt_iff_toInt_lt, e1, Int32.toInt_zero] at h; omega
  · rw [Int32.lt_iff_toInt_lt, e1, Int32.toInt_zero] at h; omega
end R2
theorem ofWF {l : Launch} {y : MethodName} {ws ws' : List Cond} {rm : Room} {Pc : Array Value → State → Prop} {Qc : Array Value → State → Outcome → State → Prop} {mc ms : Nat} {free : Addr → Prop} {cc : ByteArray} {maxL : Nat} {ret : Option FieldType}
    (hy : plainFor y = true) (hw : ws = Cond.code y cc maxL ret :: ws')
    (body : ∀ p e s m args below meth c s₁, BodyLoose p l y (headSpec ws rm) cc maxL ret e s m args below meth c s₁ → c.maxLocals = maxL → Pc args s →
      W p l e (headSpec ws rm).room s m args below meth c s.heap [] 0 0 (MQ below Qc args s mc ms free) (entryFrame m args maxL)) : Met l y ws rm Pc Qc mc ms free := by
  refine MetFree.of_bodySF (code := cc) (maxLocals := maxL) (ret := ret) hy ?_ ?_
  · intro args s m h hn
    obtain ⟨meth, c, h1, h2, h3, h4, h5, h6, -, -⟩ := Cond.code_spec hn (atoms_spec (ws := ws) h _ (by rw [hw]; exact List.mem_cons_self))
    exact ⟨meth, c, h1, h2, h3, h4, h5, h6⟩
  · intro p e s m args below meth c s₁ B hml hP _
    have hh0 : s₁.heap = s.heap := by rw [B.state]; rfl
    obtain ⟨t, a1, o, b1, b2, b3⟩ := body p e s m args below meth c s₁ B hml hP s₁ hh0 (Stand.of_body B)
    exact ⟨t, o, a1, b1, b2, ⟨b3.1, b3.2⟩⟩
theorem mk_iF {E : Ev} {G : Gm} {y : MethodName} {cc : ByteArray} {nL k : Nat} {ty : FieldType} {av : List Value} {S : Sg} {post : Sg → Option Value → Prop} (hy : plainFor y = true) (hE : eOK E) (hav : ∀ v ∈ av, v.category = 1) (hlen : av.length ≤ nL)
    (body : ∀ J : Jt, Cx E G y.cls cc nL k J → Ri cc ty post J → J S 0 (av.map some ++ List.replicate (nL - av.length) none) []) : CT E G y cc nL (some ty) k av S post := by
  refine ofWF (cc := cc) (maxL := nL) (ret := some ty) hy rfl ?_
  intro p e s m args below meth c s₁ B hml hv
  obtain ⟨rfl, hP, hK, hN⟩ := hv
  have hx := B.exec
  have hb := B.bytes
  have hr := B.returns
  have hts := atoms_spec (ws := Cond.code y cc nL (some ty) :: eW E) B.pre
  have hown : s.vm.findClass y.cls = some m.cls := findClass_of_methodNamed B.named
  have hlocks := B.notSynchronized
  rw [lg_entry_eq]
  refine body (jw p e _ s m av.toArray below meth c E G (dG G) s.heap.size 0 0 nL _) ⟨p, e, _, s, m, av.toArray, below, meth, c, dG G, s.heap.size, 0, 0, _, ⟨hx, hb, hml, hown, fun w h => hts w (List.mem_cons_of_mem _ h)⟩, hK, hN, ⟨Nat.le_refl _, Nat.le_refl _, Nat.zero_le _, Nat.zero_le _⟩, hE, fun _ h => h, rfl⟩ ?_ s.heap [] _ hP rfl va_S.rf (lo_entry hav hlen)
  intro S1 pc L v d hn hp H locs ls hP1 hz1 hS1 hl1
  exact W.zret hx hb hr hn (fun t ht hW => ⟨⟨S1, _, rfl, hp, by rw [ht]; exact hP1⟩, by rw [ht]; exact hz1, hS1.F ht⟩) hS1.2.2 d
