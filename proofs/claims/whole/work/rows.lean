section
def lw_okq (q : MethodName × Nat) : Prop := (q.1.cls ≠ "java/lang/invoke/MethodHandle" ∧ q.1.cls ≠ "java/lang/invoke/VarHandle") ∧ Cond.instantiable q.1.cls q.2 ∈ tables_1 ∧ Cond.privateMethod q.1 ∈ tables_1 ∧ Cond.instanceMethod q.1 ∈ tables_1
theorem lw_p0 : lw_okq (⟨"TelescopeDesk", "keepResult", "(I)I"⟩, 5) := ⟨⟨by decide +kernel, by decide +kernel⟩, List.mem_of_getElem? (i := 12) (by decide +kernel), List.mem_of_getElem? (i := 153) (by decide +kernel), List.mem_of_getElem? (i := 154) (by decide +kernel)⟩
theorem lw_p1 : lw_okq (⟨"TelescopeDesk$Combiner", "addWidened", "(LTelescopeDesk$Term;LTelescopeDesk$Term;I)V"⟩, 2) := ⟨⟨by decide +kernel, by decide +kernel⟩, List.mem_of_getElem? (i := 65) (by decide +kernel), List.mem_of_getElem? (i := 207) (by decide +kernel), List.mem_of_getElem? (i := 208) (by decide +kernel)⟩
theorem lw_p2 : lw_okq (⟨"TelescopeDesk$Splitter", "splitPoles", "(LTelescopeDesk$Term;LTelescopeDesk$Term;)V"⟩, 5) := ⟨⟨by decide +kernel, by decide +kernel⟩, List.mem_of_getElem? (i := 82) (by decide +kernel), List.mem_of_getElem? (i := 291) (by decide +kernel), List.mem_of_getElem? (i := 292) (by decide +kernel)⟩
theorem lw_p3 : lw_okq (⟨"TelescopeDesk$Splitter", "expandAt", "(LTelescopeDesk$Term;I)V"⟩, 5) := ⟨⟨by decide +kernel, by decide +kernel⟩, List.mem_of_getElem? (i := 82) (by decide +kernel), List.mem_of_getElem? (i := 303) (by decide +kernel), List.mem_of_getElem? (i := 304) (by decide +kernel)⟩
theorem lw_p4 : lw_okq (⟨"TelescopeDesk$Splitter", "divideSeries", "(I)V"⟩, 5) := ⟨⟨by decide +kernel, by decide +kernel⟩, List.mem_of_getElem? (i := 82) (by decide +kernel), List.mem_of_getElem? (i := 310) (by decide +kernel), List.mem_of_getElem? (i := 311) (by decide +kernel)⟩
theorem lw_p5 : lw_okq (⟨"TelescopeDesk$Splitter", "expandedWeight", "(LTelescopeDesk$Term;II)I"⟩, 5) := ⟨⟨by decide +kernel, by decide +kernel⟩, List.mem_of_getElem? (i := 82) (by decide +kernel), List.mem_of_getElem? (i := 314) (by decide +kernel), List.mem_of_getElem? (i := 315) (by decide +kernel)⟩
theorem lw_p6 : lw_okq (⟨"TelescopeDesk$Splitter", "splitWhole", "(LTelescopeDesk$Term;)V"⟩, 5) := ⟨⟨by decide +kernel, by decide +kernel⟩, List.mem_of_getElem? (i := 82) (by decide +kernel), List.mem_of_getElem? (i := 323) (by decide +kernel), List.mem_of_getElem? (i := 324) (by decide +kernel)⟩
theorem lw_p7 : lw_okq (⟨"TelescopeDesk$Splitter", "setDifferenceOfPower", "(II)V"⟩, 5) := ⟨⟨by decide +kernel, by decide +kernel⟩, List.mem_of_getElem? (i := 82) (by decide +kernel), List.mem_of_getElem? (i := 328) (by decide +kernel), List.mem_of_getElem? (i := 329) (by decide +kernel)⟩
theorem lw_p8 : lw_okq (⟨"TelescopeDesk$Splitter", "gather", "(ILTelescopeDesk$Term;)V"⟩, 5) := ⟨⟨by decide +kernel, by decide +kernel⟩, List.mem_of_getElem? (i := 82) (by decide +kernel), List.mem_of_getElem? (i := 335) (by decide +kernel), List.mem_of_getElem? (i := 336) (by decide +kernel)⟩
theorem lw_p9 : lw_okq (⟨"TelescopeDeskModel", "fresh", "(I)V"⟩, 10) := ⟨⟨by decide +kernel, by decide +kernel⟩, List.mem_of_getElem? (i := 406) (by decide +kernel), List.mem_of_getElem? (i := 457) (by decide +kernel), List.mem_of_getElem? (i := 458) (by decide +kernel)⟩
theorem lw_p10 : lw_okq (⟨"TelescopeDeskModel", "clear", "(I)V"⟩, 10) := ⟨⟨by decide +kernel, by decide +kernel⟩, List.mem_of_getElem? (i := 406) (by decide +kernel), List.mem_of_getElem? (i := 461) (by decide +kernel), List.mem_of_getElem? (i := 462) (by decide +kernel)⟩
theorem lw_p11 : lw_okq (⟨"TelescopeDeskModel", "finish", "(I)I"⟩, 10) := ⟨⟨by decide +kernel, by decide +kernel⟩, List.mem_of_getElem? (i := 406) (by decide +kernel), List.mem_of_getElem? (i := 465) (by decide +kernel), List.mem_of_getElem? (i := 466) (by decide +kernel)⟩
theorem lw_p12 : lw_okq (⟨"TelescopeDeskModel", "settled", "()Z"⟩, 10) := ⟨⟨by decide +kernel, by decide +kernel⟩, List.mem_of_getElem? (i := 406) (by decide +kernel), List.mem_of_getElem? (i := 469) (by decide +kernel), List.mem_of_getElem? (i := 470) (by decide +kernel)⟩
theorem lw_p13 : lw_okq (⟨"TelescopeDeskModel", "top", "(I)I"⟩, 10) := ⟨⟨by decide +kernel, by decide +kernel⟩, List.mem_of_getElem? (i := 406) (by decide +kernel), List.mem_of_getElem? (i := 473) (by decide +kernel), List.mem_of_getElem? (i := 474) (by decide +kernel)⟩
theorem lw_p14 : lw_okq (⟨"TelescopeDeskModel", "at", "(II)I"⟩, 10) := ⟨⟨by decide +kernel, by decide +kernel⟩, List.mem_of_getElem? (i := 406) (by decide +kernel), List.mem_of_getElem? (i := 477) (by decide +kernel), List.mem_of_getElem? (i := 478) (by decide +kernel)⟩
theorem lw_p15 : lw_okq (⟨"TelescopeDeskModel", "divide", "(II)V"⟩, 10) := ⟨⟨by decide +kernel, by decide +kernel⟩, List.mem_of_getElem? (i := 406) (by decide +kernel), List.mem_of_getElem? (i := 484) (by decide +kernel), List.mem_of_getElem? (i := 485) (by decide +kernel)⟩
def lw_privs_1 : List (MethodName × Nat) := [(⟨"TelescopeDesk", "keepResult", "(I)I"⟩, 5), (⟨"TelescopeDesk$Combiner", "addWidened", "(LTelescopeDesk$Term;LTelescopeDesk$Term;I)V"⟩, 2), (⟨"TelescopeDesk$Splitter", "splitPoles", "(LTelescopeDesk$Term;LTelescopeDesk$Term;)V"⟩, 5), (⟨"TelescopeDesk$Splitter", "expandAt", "(LTelescopeDesk$Term;I)V"⟩, 5), (⟨"TelescopeDesk$Splitter", "divideSeries", "(I)V"⟩, 5), (⟨"TelescopeDesk$Splitter", "expandedWeight", "(LTelescopeDesk$Term;II)I"⟩, 5), (⟨"TelescopeDesk$Splitter", "splitWhole", "(LTelescopeDesk$Term;)V"⟩, 5), (⟨"TelescopeDesk$Splitter", "setDifferenceOfPower", "(II)V"⟩, 5), (⟨"TelescopeDesk$Splitter", "gather", "(ILTelescopeDesk$Term;)V"⟩, 5), (⟨"TelescopeDeskModel", "fresh", "(I)V"⟩, 10), (⟨"TelescopeDeskModel", "clear", "(I)V"⟩, 10), (⟨"TelescopeDeskModel", "finish", "(I)I"⟩, 10), (⟨"TelescopeDeskModel", "settled", "()Z"⟩, 10), (⟨"TelescopeDeskModel", "top", "(I)I"⟩, 10), (⟨"TelescopeDeskModel", "at", "(II)I"⟩, 10), (⟨"TelescopeDeskModel", "divide", "(II)V"⟩, 10)]
theorem lw_r1 : ∀ q ∈ lw_privs_1, lw_okq q := List.forall_mem_cons.mpr ⟨lw_p0, List.forall_mem_cons.mpr ⟨lw_p1, List.forall_mem_cons.mpr ⟨lw_p2, List.forall_mem_cons.mpr ⟨lw_p3, List.forall_mem_cons.mpr ⟨lw_p4, List.forall_mem_cons.mpr ⟨lw_p5, List.forall_mem_cons.mpr ⟨lw_p6, List.forall_mem_cons.mpr ⟨lw_p7, List.forall_mem_cons.mpr ⟨lw_p8, List.forall_mem_cons.mpr ⟨lw_p9, List.forall_mem_cons.mpr ⟨lw_p10, List.forall_mem_cons.mpr ⟨lw_p11, List.forall_mem_cons.mpr ⟨lw_p12, List.forall_mem_cons.mpr ⟨lw_p13, List.forall_mem_cons.mpr ⟨lw_p14, List.forall_mem_cons.mpr ⟨lw_p15, fun _ h => absurd h List.not_mem_nil⟩⟩⟩⟩⟩⟩⟩⟩⟩⟩⟩⟩⟩⟩⟩⟩
theorem lw_p16 : lw_okq (⟨"TelescopeDeskModel", "put", "(I)V"⟩, 10) := ⟨⟨by decide +kernel, by decide +kernel⟩, List.mem_of_getElem? (i := 406) (by decide +kernel), List.mem_of_getElem? (i := 488) (by decide +kernel), List.mem_of_getElem? (i := 489) (by decide +kernel)⟩
theorem lw_p17 : lw_okq (⟨"TelescopeDeskModel", "isZero", "(I)Z"⟩, 10) := ⟨⟨by decide +kernel, by decide +kernel⟩, List.mem_of_getElem? (i := 406) (by decide +kernel), List.mem_of_getElem? (i := 505) (by decide +kernel), List.mem_of_getElem? (i := 506) (by decide +kernel)⟩
theorem lw_p18 : lw_okq (⟨"TelescopeDeskModel", "load", "(II)V"⟩, 10) := ⟨⟨by decide +kernel, by decide +kernel⟩, List.mem_of_getElem? (i := 406) (by decide +kernel), List.mem_of_getElem? (i := 509) (by decide +kernel), List.mem_of_getElem? (i := 510) (by decide +kernel)⟩
theorem lw_p19 : lw_okq (⟨"TelescopeDeskModel", "times", "(III)V"⟩, 10) := ⟨⟨by decide +kernel, by decide +kernel⟩, List.mem_of_getElem? (i := 406) (by decide +kernel), List.mem_of_getElem? (i := 513) (by decide +kernel), List.mem_of_getElem? (i := 514) (by decide +kernel)⟩
theorem lw_p20 : lw_okq (⟨"TelescopeDeskModel", "addRow", "(III)V"⟩, 10) := ⟨⟨by decide +kernel, by decide +kernel⟩, List.mem_of_getElem? (i := 406) (by decide +kernel), List.mem_of_getElem? (i := 517) (by decide +kernel), List.mem_of_getElem? (i := 518) (by decide +kernel)⟩
theorem lw_p21 : lw_okq (⟨"TelescopeDeskModel", "moved", "(II)V"⟩, 10) := ⟨⟨by decide +kernel, by decide +kernel⟩, List.mem_of_getElem? (i := 406) (by decide +kernel), List.mem_of_getElem? (i := 529) (by decide +kernel), List.mem_of_getElem? (i := 530) (by decide +kernel)⟩
theorem lw_p22 : lw_okq (⟨"TelescopeDeskModel", "differ", "(I)V"⟩, 10) := ⟨⟨by decide +kernel, by decide +kernel⟩, List.mem_of_getElem? (i := 406) (by decide +kernel), List.mem_of_getElem? (i := 537) (by decide +kernel), List.mem_of_getElem? (i := 538) (by decide +kernel)⟩
theorem lw_p23 : lw_okq (⟨"TelescopeDeskModel", "weigh", "(I)V"⟩, 10) := ⟨⟨by decide +kernel, by decide +kernel⟩, List.mem_of_getElem? (i := 406) (by decide +kernel), List.mem_of_getElem? (i := 553) (by decide +kernel), List.mem_of_getElem? (i := 554) (by decide +kernel)⟩
theorem lw_p24 : lw_okq (⟨"TelescopeDeskModel", "others", "(II)V"⟩, 10) := ⟨⟨by decide +kernel, by decide +kernel⟩, List.mem_of_getElem? (i := 406) (by decide +kernel), List.mem_of_getElem? (i := 557) (by decide +kernel), List.mem_of_getElem? (i := 558) (by decide +kernel)⟩
theorem lw_p25 : lw_okq (⟨"TelescopeDeskModel", "total", "(I)V"⟩, 10) := ⟨⟨by decide +kernel, by decide +kernel⟩, List.mem_of_getElem? (i := 406) (by decide +kernel), List.mem_of_getElem? (i := 567) (by decide +kernel), List.mem_of_getElem? (i := 568) (by decide +kernel)⟩
theorem lw_p26 : lw_okq (⟨"TelescopeDeskModel", "solve", "(I)V"⟩, 10) := ⟨⟨by decide +kernel, by decide +kernel⟩, List.mem_of_getElem? (i := 406) (by decide +kernel), List.mem_of_getElem? (i := 571) (by decide +kernel), List.mem_of_getElem? (i := 572) (by decide +kernel)⟩
theorem lw_p27 : lw_okq (⟨"TelescopeDeskModel", "differences", "()V"⟩, 10) := ⟨⟨by decide +kernel, by decide +kernel⟩, List.mem_of_getElem? (i := 406) (by decide +kernel), List.mem_of_getElem? (i := 575) (by decide +kernel), List.mem_of_getElem? (i := 576) (by decide +kernel)⟩
theorem lw_p28 : lw_okq (⟨"TelescopeDeskModel", "rootOf", "(III)I"⟩, 10) := ⟨⟨by decide +kernel, by decide +kernel⟩, List.mem_of_getElem? (i := 406) (by decide +kernel), List.mem_of_getElem? (i := 579) (by decide +kernel), List.mem_of_getElem? (i := 580) (by decide +kernel)⟩
theorem lw_p29 : lw_okq (⟨"TelescopeDeskModel", "valueAt", "(II)I"⟩, 10) := ⟨⟨by decide +kernel, by decide +kernel⟩, List.mem_of_getElem? (i := 406) (by decide +kernel), List.mem_of_getElem? (i := 610) (by decide +kernel), List.mem_of_getElem? (i := 611) (by decide +kernel)⟩
def lw_privs_2 : List (MethodName × Nat) := [(⟨"TelescopeDeskModel", "put", "(I)V"⟩, 10), (⟨"TelescopeDeskModel", "isZero", "(I)Z"⟩, 10), (⟨"TelescopeDeskModel", "load", "(II)V"⟩, 10), (⟨"TelescopeDeskModel", "times", "(III)V"⟩, 10), (⟨"TelescopeDeskModel", "addRow", "(III)V"⟩, 10), (⟨"TelescopeDeskModel", "moved", "(II)V"⟩, 10), (⟨"TelescopeDeskModel", "differ", "(I)V"⟩, 10), (⟨"TelescopeDeskModel", "weigh", "(I)V"⟩, 10), (⟨"TelescopeDeskModel", "others", "(II)V"⟩, 10), (⟨"TelescopeDeskModel", "total", "(I)V"⟩, 10), (⟨"TelescopeDeskModel", "solve", "(I)V"⟩, 10), (⟨"TelescopeDeskModel", "differences", "()V"⟩, 10), (⟨"TelescopeDeskModel", "rootOf", "(III)I"⟩, 10), (⟨"TelescopeDeskModel", "valueAt", "(II)I"⟩, 10)]
theorem lw_r2 : ∀ q ∈ lw_privs_2, lw_okq q := List.forall_mem_cons.mpr ⟨lw_p16, List.forall_mem_cons.mpr ⟨lw_p17, List.forall_mem_cons.mpr ⟨lw_p18, List.forall_mem_cons.mpr ⟨lw_p19, List.forall_mem_cons.mpr ⟨lw_p20, List.forall_mem_cons.mpr ⟨lw_p21, List.forall_mem_cons.mpr ⟨lw_p22, List.forall_mem_cons.mpr ⟨lw_p23, List.forall_mem_cons.mpr ⟨lw_p24, List.forall_mem_cons.mpr ⟨lw_p25, List.forall_mem_cons.mpr ⟨lw_p26, List.forall_mem_cons.mpr ⟨lw_p27, List.forall_mem_cons.mpr ⟨lw_p28, List.forall_mem_cons.mpr ⟨lw_p29, fun _ h => absurd h List.not_mem_nil⟩⟩⟩⟩⟩⟩⟩⟩⟩⟩⟩⟩⟩⟩
def lw_privs : List (MethodName × Nat) := lw_privs_1 ++ (lw_privs_2)
def lw_tbl : List Cond := k2_sels lw_privs ++ tables_1
theorem lw_privs_ok : ∀ q ∈ lw_privs, lw_okq q := by
  show ∀ q ∈ lw_privs_1 ++ (lw_privs_2), lw_okq q
  exact List.forall_mem_append.mpr ⟨lw_r1, lw_r2⟩
end
section
abbrev Sg : Type := (Nat → Nat → Nat) × (Nat → Int32)
abbrev Kd : Type := Nat ⊕ ((Nat × (Int32 → List Value)) ⊕ va_E)
abbrev Gm : Type := Nat → Option Kd
abbrev Ev : Type := Launch × (va_G × (List vw_C × (List (ClassId × FieldType) × (ClassId × (List Cond × List Cond)))))
def eL (E : Ev) : Launch := E.1
def eD (E : Ev) : va_G := E.2.1
def eC (E : Ev) : List vw_C := E.2.2.1
def eT (E : Ev) : List (ClassId × FieldType) := E.2.2.2.1
def eI (E : Ev) : ClassId := E.2.2.2.2.1
def eW (E : Ev) : List Cond := E.2.2.2.2.2.1
def eN (E : Ev) : List Cond := E.2.2.2.2.2.2
def kArr (n : Nat) : Kd := .inl n
def kObj (ci : Nat) (F : Int32 → List Value) : Kd := .inr (.inl (ci, F))
def kFix (e : va_E) : Kd := .inr (.inr e)
def wl (cI : ClassId) (G : Gm) (S : Sg) (a : Nat) : Option va_E := match G a with
  | none => none
  | some (.inl n) => some (.inl (cI, n, .inl (fun i => nI (S.1 a i))))
  | some (.inr (.inl o)) => some (.inr (o.1, o.2 (S.2 a)))
  | some (.inr (.inr e)) => some e
theorem wl_arr {cI : ClassId} {G : Gm} {S : Sg} {a n : Nat} (h : G a = some (kArr n)) : wl cI G S a = some (.inl (cI, n, .inl (fun i => nI (S.1 a i)))) := by
  unfold wl; rw [h]; rfl
theorem wl_obj {cI : ClassId} {G : Gm} {S : Sg} {a ci : Nat} {F : Int32 → List Value} (h : G a = some (kObj ci F)) : wl cI G S a = some (.inr (ci, F (S.2 a))) := by
  unfold wl; rw [h]; rfl
theorem wl_fix {cI : ClassId} {G : Gm} {S : Sg} {a : Nat} {e : va_E} (h : G a = some (kFix e)) : wl cI G S a = some e := by
  unfold wl; rw [h]; rfl
def wP (E : Ev) (G : Gm) (S : Sg) (H : Heap) : Prop := ∀ (a : Nat) (e : va_E), wl (eI E) G S a = some e → va_at (eD E) (eC E) (a, e) H
def dG (G : Gm) : Nat → Prop := fun a => G a ≠ none
theorem wP.one {E : Ev} {G : Gm} {S : Sg} {H : Heap} (h : wP E G S H) {a : Nat} {e : va_E} (he : wl (eI E) G S a = some e) : va_P (eD E) (eC E) [(a, e)] H := by
  intro k q hk
  have h1 : q = (a, e) := List.mem_singleton.mp (List.mem_of_getElem? hk)
  subst h1
  exact h a e he
theorem wP.put {E : Ev} {G : Gm} {S S' : Sg} {H H1 : Heap} {a : Nat} (h : wP E G S H) (oq : ∀ q : Nat, q ≠ a → H1[q]? = H[q]?) (hs : ∀ q, q ≠ a → wl (eI E) G S' q = wl (eI E) G S q) (ha : ∀ e, wl (eI E) G S' a = some e → va_at (eD E) (eC E) (a, e) H1) : wP E G S' H1 := by
  intro q e he
  by_cases hq : q = a
  · subst hq
    exact ha e he
  · rw [hs q hq] at he
    exact (h q e he).kept (oq q hq)
def arS (S : Sg) (a : Nat) (f : Nat → Nat) : Sg := (va_up S.1 a f, S.2)
def fdS (S : Sg) (a : Nat) (x : Int32) : Sg := (S.1, va_up S.2 a x)
theorem va_up_s {α : Type} (f : Nat → α) (k : Nat) (v : α) : va_up f k v k = v := by simp [va_up]
theorem va_up_n {α : Type} {f : Nat → α} {k j : Nat} {v : α} (h : j ≠ k) : va_up f k v j = f j := by simp [va_up, h]
theorem va_up_id {α : Type} (f : Nat → α) (k : Nat) : va_up f k (f k) = f := by
  funext j
  by_cases h : j = k
  · subst h; simp [va_up]
  · simp [va_up, h]
theorem va_up_up {α : Type} (f : Nat → α) (k : Nat) (v w : α) : va_up (va_up f k v) k w = va_up f k w := by
  funext j
  by_cases h : j = k <;> simp [va_up, h]
theorem arS_1 (S : Sg) (a : Nat) (f : Nat → Nat) : (arS S a f).1 a = f := va_up_s _ _ _
theorem arS_1n {S : Sg} {a b : Nat} {f : Nat → Nat} (h : b ≠ a) : (arS S a f).1 b = S.1 b := va_up_n h
theorem arS_2 (S : Sg) (a : Nat) (f : Nat → Nat) : (arS S a f).2 = S.2 := rfl
theorem fdS_1 (S : Sg) (a : Nat) (x : Int32) : (fdS S a x).1 = S.1 := rfl
theorem fdS_2 (S : Sg) (a : Nat) (x : Int32) : (fdS S a x).2 a = x := va_up_s _ _ _
theorem fdS_2n {S : Sg} {a b : Nat} {x : Int32} (h : b ≠ a) : (fdS S a x).2 b = S.2 b := va_up_n h
theorem arS_id (S : Sg) (a : Nat) : arS S a (S.1 a) = S := by
  obtain ⟨s1, s2⟩ := S
  show (va_up s1 a (s1 a), s2) = (s1, s2)
  rw [va_up_id]
theorem fdS_id (S : Sg) (a : Nat) : fdS S a (S.2 a) = S := by
  obtain ⟨s1, s2⟩ := S
  show (s1, va_up s2 a (s2 a)) = (s1, s2)
  rw [va_up_id]
theorem arS_arS (S : Sg) (a : Nat) (f g : Nat → Nat) : arS (arS S a f) a g = arS S a g := by
  show (va_up (va_up S.1 a f) a g, S.2) = _
  rw [va_up_up]; rfl
theorem fdS_fdS (S : Sg) (a : Nat) (x y : Int32) : fdS (fdS S a x) a y = fdS S a y := by
  show (S.1, va_up (va_up S.2 a x) a y) = _
  rw [va_up_up]; rfl
theorem fdS_arS (S : Sg) (a b : Nat) (f : Nat → Nat) (x : Int32) : fdS (arS S a f) b x = arS (fdS S b x) a f := rfl
def lo_l (L : List (Option Value)) : List (Nat × Value) := L.zipIdx.filterMap (fun q => q.1.map (fun v => (q.2, v)))
theorem lo_mem {L : List (Option Value)} {i : Nat} {v : Value} : (i, v) ∈ lo_l L ↔ L[i]? = some (some v) := by
  unfold lo_l
  rw [List.mem_filterMap]
  constructor
  · rintro ⟨⟨o, j⟩, h1, h2⟩
    rw [List.mem_zipIdx_iff_getElem?] at h1
    cases o with
    | none => simp at h2
    | some w =>
      simp at h2
      obtain ⟨rfl, rfl⟩ := h2
      exact h1
  · intro h
    exact ⟨(some v, i), List.mem_zipIdx_iff_getElem?.mpr h, rfl⟩
def lo_has (ls : Array Slot) (nL : Nat) (L : List (Option Value)) : Prop := lv_has ls nL (lo_l L) ∧ ∀ (i : Nat) (v : Value), L[i]? = some (some v) → v.category = 1
theorem lo_at {ls : Array Slot} {nL : Nat} {L : List (Option Value)} {i : Nat} {v : Value} (h : lo_has ls nL L) (hi : L[i]? = some (some v)) : ls[i]? = some (.val v) := h.1.2.2 (i, v) (lo_mem.mpr hi)
theorem lo_key {L : List (Option Value)} {i j : Nat} {v w : Value} (hj : (L.set i (some v))[j]? = some (some w)) : (j = i ∧ w = v) ∨ (j ≠ i ∧ L[j]? = some (some w)) := by
  rw [List.getElem?_set] at hj
  by_cases e : i = j
  · rw [if_pos e] at hj
    by_cases e2 : i < L.length
    · rw [if_pos e2] at hj
      exact Or.inl ⟨e.symm, (Option.some.inj (Option.some.inj hj)).symm⟩
    · rw [if_neg e2] at hj
      cases hj
  · rw [if_neg e] at hj
    exact Or.inr ⟨fun z => e z.symm, hj⟩
theorem lo_put {ls ls' : Array Slot} {nL : Nat} {L : List (Option Value)} {i : Nat} {v : Value} (h : lo_has ls nL L) (hc : v.category = 1) (h' : lv_has ls' nL ((i, v) :: (lo_l L).filter (fun q => !(q.1 == i) && !(q.1 + 1 == i && q.2.category == 2)))) : lo_has ls' nL (L.set i (some v)) := by
  refine ⟨⟨h'.1, h'.2.1, fun q hq => ?_⟩, fun j w hj => ?_⟩
  · obtain ⟨j, w⟩ := q
    rcases lo_key (lo_mem.mp hq) with ⟨rfl, rfl⟩ | ⟨h1, h2⟩
    · exact h'.2.2 _ List.mem_cons_self
    · refine h'.2.2 (j, w) (List.mem_cons_of_mem _ (List.mem_filter.mpr ⟨lo_mem.mpr h2, ?_⟩))
      have hw := h.2 j w h2
      simp [h1, hw]
  · rcases lo_key hj with ⟨rfl, rfl⟩ | ⟨h1, h2⟩
    · exact hc
    · exact h.2 j w h2
theorem lo_forget {ls : Array Slot} {nL : Nat} {L L' : List (Option Value)} (h : lo_has ls nL L) (hs : ∀ (i : Nat) (v : Value), L'[i]? = some (some v) → L[i]? = some (some v)) : lo_has ls nL L' :=
  ⟨⟨h.1.1, h.1.2.1, fun q hq => h.1.2.2 q (lo_mem.mpr (hs q.1 q.2 (lo_mem.mp hq)))⟩, fun i v hi => h.2 i v (hs i v hi)⟩
theorem lo_args {av : List Value} (hc : ∀ v ∈ av, v.category = 1) : ∀ (i j : Nat) (v : Value), av[j]? = some v → (i + j, v) ∈ lv_args i av := by
  induction av with
  | nil => intro i j v h; simp at h
  | cons w ws ih =>
    intro i j v h
    have hw : ¬ w.category = 2 := by have := hc w List.mem_cons_self; omega
    unfold lv_args
    rw [if_neg hw]
    cases j with
    | zero =>
      simp at h
      subst h
      exact List.mem_cons_self
    | succ j =>
      rw [List.getElem?_cons_succ] at h
      have := ih (fun v hv => hc v (List.mem_cons_of_mem _ hv)) (i + 1) j v h
      rw [show i + 1 + j = i + (j + 1) by omega] at this
      exact List.mem_cons_of_mem _ this
theorem lo_sl {av : List Value} (hc : ∀ v ∈ av, v.category = 1) : (lg_sl av).length = av.length := by
  induction av with
  | nil => rfl
  | cons w ws ih =>
    have hw : ¬ w.category = 2 := by have := hc w List.mem_cons_self; omega
    have := ih (fun v hv => hc v (List.mem_cons_of_mem _ hv))
    simp only [lg_sl, List.flatMap_cons, if_neg hw, List.length_append, List.length_cons, List.length_nil] at this ⊢
    omega
theorem lo_entry {av : List Value} {n : Nat} (hc : ∀ v ∈ av, v.category = 1) (hn : av.length ≤ n) : lo_has ((lg_sl av ++ List.replicate (n - (lg_sl av).length) Slot.unset).toArray) n (av.map some ++ List.replicate (n - av.length) none) := by
  have h1 := lv_entry av (n := n) (by rw [lo_sl hc]; exact hn)
  have key : ∀ (i : Nat) (v : Value), (av.map some ++ List.replicate (n - av.length) none)[i]? = some (some v) → av[i]? = some v := by
    intro i v hi
    by_cases hl : i < av.length
    · rw [List.getElem?_append_left (by simpa using hl), List.getElem?_map] at hi
      cases hz : av[i]? with
      | none => rw [hz] at hi; cases hi
      | some x => rw [hz] at hi; exact Option.some.inj hi
    · rw [List.getElem?_append_right (by simpa using hl), List.getElem?_replicate] at hi
      split at hi
      · cases hi
      · cases hi
  refine ⟨⟨h1.1, h1.2.1, fun q hq => h1.2.2 q ?_⟩, fun i v hi => hc v (List.mem_of_getElem? (key i v hi))⟩
  have := lo_args hc 0 q.1 q.2 (key q.1 q.2 (lo_mem.mp hq))
  rw [Nat.zero_add] at this
  exact this
def jw (p : Program) (e : Env) (R : Room) (s : State) (m : MethodId) (args : Array Value) (below : List Frame) (meth : Method) (c : Code) (E : Ev) (G : Gm) (A : Nat → Prop) (sz n1 n2 nL : Nat) (Q : State → Prop) (S : Sg) (pc : Nat) (L : List (Option Value)) (st : List Value) : Prop :=
  ∀ (H : Heap) (locs : List Loc) (ls : Array Slot), wP E G S H → H.size = sz → va_S A s.heap H locs → lo_has ls nL L → W p (eL E) e R s m args below meth c H locs n1 n2 Q (F0 m pc ls st)
def wQ (E : Ev) (G : Gm) (post : Sg → Option Value → Prop) : Array Value → State → Outcome → State → Prop := fun _ st oc t => (∃ (S' : Sg) (v : Option Value), oc = .returned v ∧ post S' v ∧ wP E G S' t.heap) ∧ t.heap.size = st.heap.size ∧ va_F (dG G) st t
def wPc (E : Ev) (G : Gm) (S : Sg) (U : State) : Prop := wP E G S U.heap ∧ va_K (eD E) (eC E) (eT E) U ∧ ∀ w ∈ eN E, va_Nw w U
def CT (E : Ev) (G : Gm) (y : MethodName) (cc : ByteArray) (nL : Nat) (ret : Option FieldType) (k : Nat) (av : List Value) (S : Sg) (post : Sg → Option Value → Prop) : Prop :=
  Met (eL E) y (Cond.code y cc nL ret :: eW E) { frames := k, cells := 0, slots := 0, locals := 40 * k } (va_Pc av (wPc E G S)) (wQ E G post) 0 0 (dG G)
def nwk : Cond → Bool
  | .fieldLinkNest .. => true
  | .methodLinkNest .. => true
  | _ => false
def eOK (E : Ev) : Prop := (∀ w ∈ eW E, (w.onTables && w.keeps) = true ∨ ∃ ty, w = .arrayClass ty) ∧ (∀ w ∈ eN E, nwk w = true) ∧ (eT E)[0]? = some (eI E, .int)
abbrev Jt : Type := Sg → Nat → List (Option Value) → List Value → Prop
def Cx (E : Ev) (G : Gm) (own : String) (cc : ByteArray) (nL k : Nat) (J : Jt) : Prop :=
  ∃ (p : Program) (e : Env) (R : Room) (s : State) (m : MethodId) (args : Array Value) (below : List Frame) (meth : Method) (c : Code) (A : Nat → Prop) (sz n1 n2 : Nat) (Q : State → Prop),
    (p.tables.exec = Jvm.exec ∧ c.code = cc ∧ c.maxLocals = nL ∧ s.vm.findClass own = some m.cls ∧ (∀ w ∈ eW E, w.before args s = true)) ∧ va_K (eD E) (eC E) (eT E) s ∧ (∀ w ∈ eN E, va_Nw w s) ∧ (k ≤ R.frames ∧ 40 * k ≤ R.locals ∧ n1 ≤ R.cells ∧ n2 ≤ R.slots) ∧ eOK E ∧ (∀ q, dG G q → A q) ∧
    J = jw p e R s m args below meth c E G A sz n1 n2 nL Q
def Ri (cc : ByteArray) (ty : FieldType) (post : Sg → Option Value → Prop) (J : Jt) : Prop := ∀ (S : Sg) (pc : Nat) (L : List (Option Value)) (v : Int32), decode cc pc = .ok (.ireturn, 1) → narrow ty (.int v) = .int v → post S (some (.int v)) → J S pc L [.int v]
def Rv (cc : ByteArray) (post : Sg → Option Value → Prop) (J : Jt) : Prop := ∀ (S : Sg) (pc : Nat) (L : List (Option Value)), decode cc pc = .ok (.return_, 1) → post S none → J S pc L []
theorem nw_warm {w : Cond} (hw : nwk w = true) {s U : State} (hW : s.WarmedH U.vm) (h : va_Nw w s) : va_Nw w U := by
  cases w <;> first | exact va_Nw.warmF hW h | exact va_Nw.warmM hW h | cases hw
theorem nw_same {w : Cond} (hw : nwk w = true) {s U : State} (e : s.vm = U.vm) (h : va_Nw w s) : va_Nw w U := by
  cases w <;> first | exact va_Nw.same rfl e h | cases hw
theorem mk_i {E : Ev} {G : Gm} {y : MethodName} {cc : ByteArray} {nL k : Nat} {ty : FieldType} {av : List Value} {S : Sg} {post : Sg → Option Value → Prop} (hy : plainName y.cls = true) (hE : eOK E) (hav : ∀ v ∈ av, v.category = 1) (hlen : av.length ≤ nL)
    (body : ∀ J : Jt, Cx E G y.cls cc nL k J → Ri cc ty post J → J S 0 (av.map some ++ List.replicate (nL - av.length) none) []) : CT E G y cc nL (some ty) k av S post := by
  refine Met.ofW (cc := cc) (maxL := nL) (ret := some ty) hy rfl ?_
  intro p e s m args below meth c s₁ B hml hv
  obtain ⟨rfl, hP, hK, hN⟩ := hv
  have hx := B.exec
  have hb := B.bytes
  have hr := B.returns
  have hts := atoms_spec (ws := Cond.code y cc nL (some ty) :: eW E) B.pre
  have hown : s.vm.findClass y.cls = some m.cls := findClass_of_methodNamed B.named
  have hlocks := B.notSynchronized
  rw [lg_entry_eq]
  refine body (jw p e _ s m av.toArray below meth c E G (dG G) s.heap.size 0 0 nL _) ⟨p, e, _, s, m, av.toArray, below, meth, c, dG G, s.heap.size, 0, 0, _, ⟨hx, hb, hml, hown, fun w h => hts w (List.mem_cons_of_mem _ h)⟩, hK, hN, ⟨Nat.le_refl _, Nat.le_refl _, Nat.zero_le _, Nat.zero_le _⟩, hE, fun _ h => h, rfl⟩ ?_ s.heap [] _ hP rfl va_S.rf (lo_entry hav hlen)
  intro S1 pc L v d hn hp H locs ls hP1 hz1 hS1 hl1
  exact W.zret hx hb hr hn (fun t ht hW => ⟨⟨S1, _, rfl, hp, by rw [ht]; exact hP1⟩, by rw [ht]; exact hz1, hS1.F ht⟩) hS1.2.2 d
theorem mk_v {E : Ev} {G : Gm} {y : MethodName} {cc : ByteArray} {nL k : Nat} {av : List Value} {S : Sg} {post : Sg → Option Value → Prop} (hy : plainName y.cls = true) (hE : eOK E) (hav : ∀ v ∈ av, v.category = 1) (hlen : av.length ≤ nL)
    (body : ∀ J : Jt, Cx E G y.cls cc nL k J → Rv cc post J → J S 0 (av.map some ++ List.replicate (nL - av.length) none) []) : CT E G y cc nL none k av S post := by
  refine Met.ofW (cc := cc) (maxL := nL) (ret := none) hy rfl ?_
  intro p e s m args below meth c s₁ B hml hv
  obtain ⟨rfl, hP, hK, hN⟩ := hv
  have hx := B.exec
  have hb := B.bytes
  have hr := B.returns
  have hts := atoms_spec (ws := Cond.code y cc nL none :: eW E) B.pre
  have hown : s.vm.findClass y.cls = some m.cls := findClass_of_methodNamed B.named
  have hlocks := B.notSynchronized
  rw [lg_entry_eq]
  refine body (jw p e _ s m av.toArray below meth c E G (dG G) s.heap.size 0 0 nL _) ⟨p, e, _, s, m, av.toArray, below, meth, c, dG G, s.heap.size, 0, 0, _, ⟨hx, hb, hml, hown, fun w h => hts w (List.mem_cons_of_mem _ h)⟩, hK, hN, ⟨Nat.le_refl _, Nat.le_refl _, Nat.zero_le _, Nat.zero_le _⟩, hE, fun _ h => h, rfl⟩ ?_ s.heap [] _ hP rfl va_S.rf (lo_entry hav hlen)
  intro S1 pc L d hp H locs ls hP1 hz1 hS1 hl1
  exact W.vret hx hb hr (fun t ht hW => ⟨⟨S1, _, rfl, hp, by rw [ht]; exact hP1⟩, by rw [ht]; exact hz1, hS1.F ht⟩) hS1.2.2 d
section RW
variable {E : Ev} {G : Gm} {own : String} {cc : ByteArray} {nL k : Nat} {J : Jt} {S : Sg} {pc : Nat} {L : List (Option Value)} {st : List Value}
theorem r_iconst (X : Cx E G own cc nL k J) {n : Int} {x : Int32} (d : decode cc pc = .ok (.iconst n, 1)) (hv : Int32.ofInt n = x) (kk : J S (pc + 1) L (.int x :: st)) : J S pc L st := by
  obtain ⟨p, e, R, s, m, args, below, meth, c, A, sz, n1, n2, Q, ⟨hx, hb, hml, hown, hts⟩, hK, hN, hR, hE, hA, rfl⟩ := X
  intro H locs ls hP hz hS hl
  exact lv_iconst hx hb d hv (kk H locs ls hP hz hS hl)
theorem r_bipush (X : Cx E G own cc nL k J) {n : Int} {x : Int32} (d : decode cc pc = .ok (.bipush n, 2)) (hv : (Int8.ofInt n).toInt32 = x) (kk : J S (pc + 2) L (.int x :: st)) : J S pc L st := by
  obtain ⟨p, e, R, s, m, args, below, meth, c, A, sz, n1, n2, Q, ⟨hx, hb, hml, hown, hts⟩, hK, hN, hR, hE, hA, rfl⟩ := X
  intro H locs ls hP hz hS hl
  exact lv_bipush hx hb d hv (kk H locs ls hP hz hS hl)
theorem r_sipush (X : Cx E G own cc nL k J) {n : Int} {x : Int32} (d : decode cc pc = .ok (.sipush n, 3)) (hv : (Int16.ofInt n).toInt32 = x) (kk : J S (pc + 3) L (.int x :: st)) : J S pc L st := by
  obtain ⟨p, e, R, s, m, args, below, meth, c, A, sz, n1, n2, Q, ⟨hx, hb, hml, hown, hts⟩, hK, hN, hR, hE, hA, rfl⟩ := X
  intro H locs ls hP hz hS hl
  exact lv_sipush hx hb d hv (kk H locs ls hP hz hS hl)
theorem r_iload_n (X : Cx E G own cc nL k J) {i : Fin 4} {x : Int32} (d : decode cc pc = .ok (.iload_n i, 1)) (h : L[(i : Nat)]? = some (some (.int x))) (kk : J S (pc + 1) L (.int x :: st)) : J S pc L st := by
  obtain ⟨p, e, R, s, m, args, below, meth, c, A, sz, n1, n2, Q, ⟨hx, hb, hml, hown, hts⟩, hK, hN, hR, hE, hA, rfl⟩ := X
  intro H locs ls hP hz hS hl
  exact lv_iload_n hx hb d rfl (lo_at hl h) (kk H locs ls hP hz hS hl)
theorem r_iload (X : Cx E G own cc nL k J) {i : Nat} {x : Int32} (d : decode cc pc = .ok (.iload i, 2)) (h : L[i]? = some (some (.int x))) (kk : J S (pc + 2) L (.int x :: st)) : J S pc L st := by
  obtain ⟨p, e, R, s, m, args, below, meth, c, A, sz, n1, n2, Q, ⟨hx, hb, hml, hown, hts⟩, hK, hN, hR, hE, hA, rfl⟩ := X
  intro H locs ls hP hz hS hl
  exact lv_iload hx hb d (lo_at hl h) (kk H locs ls hP hz hS hl)
theorem r_aload_n (X : Cx E G own cc nL k J) {i : Fin 4} {x : Nat} (d : decode cc pc = .ok (.aload_n i, 1)) (h : L[(i : Nat)]? = some (some (.ref x))) (kk : J S (pc + 1) L (.ref x :: st)) : J S pc L st := by
  obtain ⟨p, e, R, s, m, args, below, meth, c, A, sz, n1, n2, Q, ⟨hx, hb, hml, hown, hts⟩, hK, hN, hR, hE, hA, rfl⟩ := X
  intro H locs ls hP hz hS hl
  exact lv_aload_n hx hb d rfl (lo_at hl h) (kk H locs ls hP hz hS hl)
theorem r_aload (X : Cx E G own cc nL k J) {i : Nat} {x : Nat} (d : decode cc pc = .ok (.aload i, 2)) (h : L[i]? = some (some (.ref x))) (kk : J S (pc + 2) L (.ref x :: st)) : J S pc L st := by
  obtain ⟨p, e, R, s, m, args, below, meth, c, A, sz, n1, n2, Q, ⟨hx, hb, hml, hown, hts⟩, hK, hN, hR, hE, hA, rfl⟩ := X
  intro H locs ls hP hz hS hl
  exact lv_aload hx hb d (lo_at hl h) (kk H locs ls hP hz hS hl)
theorem r_istore_n (X : Cx E G own cc nL k J) {i : Fin 4} {x : Int32} (d : decode cc pc = .ok (.istore_n i, 1)) (hi : (i : Nat) < nL) (kk : J S (pc + 1) (L.set (i : Nat) (some (.int x))) st) : J S pc L (.int x :: st) := by
  obtain ⟨p, e, R, s, m, args, below, meth, c, A, sz, n1, n2, Q, ⟨hx, hb, hml, hown, hts⟩, hK, hN, hR, hE, hA, rfl⟩ := X
  intro H locs ls hP hz hS hl
  exact lv_istore_n hx hb d rfl hl.1 hi rfl (fun ls' h' => kk H locs ls' hP hz hS (lo_put hl rfl h'))
theorem r_istore (X : Cx E G own cc nL k J) {i : Nat} {x : Int32} (d : decode cc pc = .ok (.istore i, 2)) (hi : i < nL) (kk : J S (pc + 2) (L.set i (some (.int x))) st) : J S pc L (.int x :: st) := by
  obtain ⟨p, e, R, s, m, args, below, meth, c, A, sz, n1, n2, Q, ⟨hx, hb, hml, hown, hts⟩, hK, hN, hR, hE, hA, rfl⟩ := X
  intro H locs ls hP hz hS hl
  exact lv_istore hx hb d hl.1 hi rfl (fun ls' h' => kk H locs ls' hP hz hS (lo_put hl rfl h'))
theorem r_astore_n (X : Cx E G own cc nL k J) {i : Fin 4} {x : Nat} (d : decode cc pc = .ok (.astore_n i, 1)) (hi : (i : Nat) < nL) (kk : J S (pc + 1) (L.set (i : Nat) (some (.ref x))) st) : J S pc L (.ref x :: st) := by
  obtain ⟨p, e, R, s, m, args, below, meth, c, A, sz, n1, n2, Q, ⟨hx, hb, hml, hown, hts⟩, hK, hN, hR, hE, hA, rfl⟩ := X
  intro H locs ls hP hz hS hl
  exact lv_astore_n hx hb d rfl hl.1 hi rfl (fun ls' h' => kk H locs ls' hP hz hS (lo_put hl rfl h'))
theorem r_astore (X : Cx E G own cc nL k J) {i : Nat} {x : Nat} (d : decode cc pc = .ok (.astore i, 2)) (hi : i < nL) (kk : J S (pc + 2) (L.set i (some (.ref x))) st) : J S pc L (.ref x :: st) := by
  obtain ⟨p, e, R, s, m, args, below, meth, c, A, sz, n1, n2, Q, ⟨hx, hb, hml, hown, hts⟩, hK, hN, hR, hE, hA, rfl⟩ := X
  intro H locs ls hP hz hS hl
  exact lv_astore hx hb d hl.1 hi rfl (fun ls' h' => kk H locs ls' hP hz hS (lo_put hl rfl h'))
theorem r_iinc (X : Cx E G own cc nL k J) {i : Nat} {n : Int} {x y : Int32} (d : decode cc pc = .ok (.iinc i n, 3)) (h : L[i]? = some (some (.int x))) (hv : x + Int32.ofInt n = y) (hi : i < nL) (kk : J S (pc + 3) (L.set i (some (.int y))) st) : J S pc L st := by
  obtain ⟨p, e, R, s, m, args, below, meth, c, A, sz, n1, n2, Q, ⟨hx, hb, hml, hown, hts⟩, hK, hN, hR, hE, hA, rfl⟩ := X
  intro H locs ls hP hz hS hl
  obtain ⟨j, hj⟩ := List.getElem?_of_mem (lo_mem.mpr h)
  exact lv_iinc hx hb d hl.1 hj hv hi rfl (fun ls' h' => kk H locs ls' hP hz hS (lo_put hl rfl h'))
theorem r_iadd (X : Cx E G own cc nL k J) {x y : Int32} (d : decode cc pc = .ok (.iadd, 1)) (kk : J S (pc + 1) L (.int (x + y) :: st)) : J S pc L (.int y :: .int x :: st) := by
  obtain ⟨p, e, R, s, m, args, below, meth, c, A, sz, n1, n2, Q, ⟨hx, hb, hml, hown, hts⟩, hK, hN, hR, hE, hA, rfl⟩ := X
  intro H locs ls hP hz hS hl
  exact lv_iadd hx hb d (kk H locs ls hP hz hS hl)
theorem r_isub (X : Cx E G own cc nL k J) {x y : Int32} (d : decode cc pc = .ok (.isub, 1)) (kk : J S (pc + 1) L (.int (x - y) :: st)) : J S pc L (.int y :: .int x :: st) := by
  obtain ⟨p, e, R, s, m, args, below, meth, c, A, sz, n1, n2, Q, ⟨hx, hb, hml, hown, hts⟩, hK, hN, hR, hE, hA, rfl⟩ := X
  intro H locs ls hP hz hS hl
  exact lv_isub hx hb d (kk H locs ls hP hz hS hl)
theorem r_imul (X : Cx E G own cc nL k J) {x y : Int32} (d : decode cc pc = .ok (.imul, 1)) (kk : J S (pc + 1) L (.int (x * y) :: st)) : J S pc L (.int y :: .int x :: st) := by
  obtain ⟨p, e, R, s, m, args, below, meth, c, A, sz, n1, n2, Q, ⟨hx, hb, hml, hown, hts⟩, hK, hN, hR, hE, hA, rfl⟩ := X
  intro H locs ls hP hz hS hl
  exact lv_imul hx hb d (kk H locs ls hP hz hS hl)
theorem r_iand (X : Cx E G own cc nL k J) {x y : Int32} (d : decode cc pc = .ok (.iand, 1)) (kk : J S (pc + 1) L (.int (x &&& y) :: st)) : J S pc L (.int y :: .int x :: st) := by
  obtain ⟨p, e, R, s, m, args, below, meth, c, A, sz, n1, n2, Q, ⟨hx, hb, hml, hown, hts⟩, hK, hN, hR, hE, hA, rfl⟩ := X
  intro H locs ls hP hz hS hl
  exact lv_iand hx hb d (kk H locs ls hP hz hS hl)
theorem r_ixor (X : Cx E G own cc nL k J) {x y : Int32} (d : decode cc pc = .ok (.ixor, 1)) (kk : J S (pc + 1) L (.int (x ^^^ y) :: st)) : J S pc L (.int y :: .int x :: st) := by
  obtain ⟨p, e, R, s, m, args, below, meth, c, A, sz, n1, n2, Q, ⟨hx, hb, hml, hown, hts⟩, hK, hN, hR, hE, hA, rfl⟩ := X
  intro H locs ls hP hz hS hl
  exact lv_ixor hx hb d (kk H locs ls hP hz hS hl)
theorem r_ishr (X : Cx E G own cc nL k J) {x y : Int32} (d : decode cc pc = .ok (.ishr, 1)) (kk : J S (pc + 1) L (.int (x >>> (y &&& 31)) :: st)) : J S pc L (.int y :: .int x :: st) := by
  obtain ⟨p, e, R, s, m, args, below, meth, c, A, sz, n1, n2, Q, ⟨hx, hb, hml, hown, hts⟩, hK, hN, hR, hE, hA, rfl⟩ := X
  intro H locs ls hP hz hS hl
  exact lv_ishr hx hb d (kk H locs ls hP hz hS hl)
theorem r_idiv (X : Cx E G own cc nL k J) {x y : Int32} (d : decode cc pc = .ok (.idiv, 1)) (hne : ¬ y = 0) (kk : J S (pc + 1) L (.int (x / y) :: st)) : J S pc L (.int y :: .int x :: st) := by
  obtain ⟨p, e, R, s, m, args, below, meth, c, A, sz, n1, n2, Q, ⟨hx, hb, hml, hown, hts⟩, hK, hN, hR, hE, hA, rfl⟩ := X
  intro H locs ls hP hz hS hl
  exact lv_idiv hx hb d hne (kk H locs ls hP hz hS hl)
theorem r_irem (X : Cx E G own cc nL k J) {x y : Int32} (d : decode cc pc = .ok (.irem, 1)) (hne : ¬ y = 0) (kk : J S (pc + 1) L (.int (x - x / y * y) :: st)) : J S pc L (.int y :: .int x :: st) := by
  obtain ⟨p, e, R, s, m, args, below, meth, c, A, sz, n1, n2, Q, ⟨hx, hb, hml, hown, hts⟩, hK, hN, hR, hE, hA, rfl⟩ := X
  intro H locs ls hP hz hS hl
  exact lv_irem hx hb d hne (kk H locs ls hP hz hS hl)
theorem r_ineg (X : Cx E G own cc nL k J) {x : Int32} (d : decode cc pc = .ok (.ineg, 1)) (kk : J S (pc + 1) L (.int (-x) :: st)) : J S pc L (.int x :: st) := by
  obtain ⟨p, e, R, s, m, args, below, meth, c, A, sz, n1, n2, Q, ⟨hx, hb, hml, hown, hts⟩, hK, hN, hR, hE, hA, rfl⟩ := X
  intro H locs ls hP hz hS hl
  exact lv_ineg hx hb d (kk H locs ls hP hz hS hl)
theorem r_dup (X : Cx E G own cc nL k J) {va : Value} (d : decode cc pc = .ok (.dup, 1)) (hva : va.category = 1) (kk : J S (pc + 1) L (va :: va :: st)) : J S pc L (va :: st) := by
  obtain ⟨p, e, R, s, m, args, below, meth, c, A, sz, n1, n2, Q, ⟨hx, hb, hml, hown, hts⟩, hK, hN, hR, hE, hA, rfl⟩ := X
  intro H locs ls hP hz hS hl
  exact lv_dup hx hb d hva (kk H locs ls hP hz hS hl)
theorem r_pop (X : Cx E G own cc nL k J) {va : Value} (d : decode cc pc = .ok (.pop, 1)) (hva : va.category = 1) (kk : J S (pc + 1) L st) : J S pc L (va :: st) := by
  obtain ⟨p, e, R, s, m, args, below, meth, c, A, sz, n1, n2, Q, ⟨hx, hb, hml, hown, hts⟩, hK, hN, hR, hE, hA, rfl⟩ := X
  intro H locs ls hP hz hS hl
  exact lv_pop hx hb d hva (kk H locs ls hP hz hS hl)
theorem r_dup2 (X : Cx E G own cc nL k J) {va vb : Value} (d : decode cc pc = .ok (.dup2, 1)) (hva : va.category = 1) (hvb : vb.category = 1) (kk : J S (pc + 1) L (va :: vb :: va :: vb :: st)) : J S pc L (va :: vb :: st) := by
  obtain ⟨p, e, R, s, m, args, below, meth, c, A, sz, n1, n2, Q, ⟨hx, hb, hml, hown, hts⟩, hK, hN, hR, hE, hA, rfl⟩ := X
  intro H locs ls hP hz hS hl
  exact lv_dup2_11 hx hb d hva hvb (kk H locs ls hP hz hS hl)
theorem r_dup_x1 (X : Cx E G own cc nL k J) {va vb : Value} (d : decode cc pc = .ok (.dup_x1, 1)) (hva : va.category = 1) (hvb : vb.category = 1) (kk : J S (pc + 1) L (va :: vb :: va :: st)) : J S pc L (va :: vb :: st) := by
  obtain ⟨p, e, R, s, m, args, below, meth, c, A, sz, n1, n2, Q, ⟨hx, hb, hml, hown, hts⟩, hK, hN, hR, hE, hA, rfl⟩ := X
  intro H locs ls hP hz hS hl
  exact lv_dup_x1 hx hb d hva hvb (kk H locs ls hP hz hS hl)
theorem r_dup_x2 (X : Cx E G own cc nL k J) {va vb vd : Value} (d : decode cc pc = .ok (.dup_x2, 1)) (hva : va.category = 1) (hvb : vb.category = 1) (hvd : vd.category = 1) (kk : J S (pc + 1) L (va :: vb :: vd :: va :: st)) : J S pc L (va :: vb :: vd :: st) := by
  obtain ⟨p, e, R, s, m, args, below, meth, c, A, sz, n1, n2, Q, ⟨hx, hb, hml, hown, hts⟩, hK, hN, hR, hE, hA, rfl⟩ := X
  intro H locs ls hP hz hS hl
  exact lv_dup_x2 hx hb d hva hvb hvd (kk H locs ls hP hz hS hl)
theorem r_if_eq (X : Cx E G own cc nL k J) {x : Int32} {off : Int} {tgt : Nat} (d : decode cc pc = .ok (.ifCond .eq off, 3)) (ht : (pc : Int) + off = (tgt : Int)) (kt : x = 0 → J S tgt L st) (kf : ¬ x = 0 → J S (pc + 3) L st) : J S pc L (.int x :: st) := by
  obtain ⟨p, e, R, s, m, args, below, meth, c, A, sz, n1, n2, Q, ⟨hx, hb, hml, hown, hts⟩, hK, hN, hR, hE, hA, rfl⟩ := X
  intro H locs ls hP hz hS hl
  exact lv_if_eq hx hb d ht (fun h => kt h H locs ls hP hz hS hl) (fun h => kf (by first | exact h | exact Decidable.not_not.mp h) H locs ls hP hz hS hl)
theorem r_icmp_eq (X : Cx E G own cc nL k J) {x y : Int32} {off : Int} {tgt : Nat} (d : decode cc pc = .ok (.if_icmp .eq off, 3)) (ht : (pc : Int) + off = (tgt : Int)) (kt : x = y → J S tgt L st) (kf : ¬ x = y → J S (pc + 3) L st) : J S pc L (.int y :: .int x :: st) := by
  obtain ⟨p, e, R, s, m, args, below, meth, c, A, sz, n1, n2, Q, ⟨hx, hb, hml, hown, hts⟩, hK, hN, hR, hE, hA, rfl⟩ := X
  intro H locs ls hP hz hS hl
  exact lv_icmp_eq hx hb d ht (fun h => kt h H locs ls hP hz hS hl) (fun h => kf (by first | exact h | exact Decidable.not_not.mp h) H locs ls hP hz hS hl)
theorem r_icmp_eqN (X : Cx E G own cc nL k J) {a b : Nat} {off : Int} {tgt : Nat} (d : decode cc pc = .ok (.if_icmp .eq off, 3)) (ht : (pc : Int) + off = (tgt : Int)) (ha : a < 2 ^ 31) (hb : b < 2 ^ 31) (kt : a = b → J S tgt L st) (kf : a ≠ b → J S (pc + 3) L st) : J S pc L (.int (nI b) :: .int (nI a) :: st) :=
  r_icmp_eq X d ht (fun h => kt ((nI_eq ha hb).mp h)) (fun h => kf (fun z => h ((nI_eq ha hb).mpr z)))
theorem r_if_eqN (X : Cx E G own cc nL k J) {a : Nat} {off : Int} {tgt : Nat} (d : decode cc pc = .ok (.ifCond .eq off, 3)) (ht : (pc : Int) + off = (tgt : Int)) (ha : a < 2 ^ 31) (kt : a = 0 → J S tgt L st) (kf : a ≠ 0 → J S (pc + 3) L st) : J S pc L (.int (nI a) :: st) :=
  r_if_eq X d ht (fun h => kt ((nI_eq (b := 0) ha (show (0 : Nat) < 2 ^ 31 by decide)).mp (h.trans nI_0.symm))) (fun h => kf (fun z => h (by rw [z]; exact nI_0)))
theorem r_if_ne (X : Cx E G own cc nL k J) {x : Int32} {off : Int} {tgt : Nat} (d : decode cc pc = .ok (.ifCond .ne off, 3)) (ht : (pc : Int) + off = (tgt : Int)) (kt : ¬ x = 0 → J S tgt L st) (kf : x = 0 → J S (pc + 3) L st) : J S pc L (.int x :: st) := by
  obtain ⟨p, e, R, s, m, args, below, meth, c, A, sz, n1, n2, Q, ⟨hx, hb, hml, hown, hts⟩, hK, hN, hR, hE, hA, rfl⟩ := X
  intro H locs ls hP hz hS hl
  exact lv_if_ne hx hb d ht (fun h => kt h H locs ls hP hz hS hl) (fun h => kf (by first | exact h | exact Decidable.not_not.mp h) H locs ls hP hz hS hl)
theorem r_icmp_ne (X : Cx E G own cc nL k J) {x y : Int32} {off : Int} {tgt : Nat} (d : decode cc pc = .ok (.if_icmp .ne off, 3)) (ht : (pc : Int) + off = (tgt : Int)) (kt : ¬ x = y → J S tgt L st) (kf : x = y → J S (pc + 3) L st) : J S pc L (.int y :: .int x :: st) := by
  obtain ⟨p, e, R, s, m, args, below, meth, c, A, sz, n1, n2, Q, ⟨hx, hb, hml, hown, hts⟩, hK, hN, hR, hE, hA, rfl⟩ := X
  intro H locs ls hP hz hS hl
  exact lv_icmp_ne hx hb d ht (fun h => kt h H locs ls hP hz hS hl) (fun h => kf (by first | exact h | exact Decidable.not_not.mp h) H locs ls hP hz hS hl)
theorem r_icmp_neN (X : Cx E G own cc nL k J) {a b : Nat} {off : Int} {tgt : Nat} (d : decode cc pc = .ok (.if_icmp .ne off, 3)) (ht : (pc : Int) + off = (tgt : Int)) (ha : a < 2 ^ 31) (hb : b < 2 ^ 31) (kt : a ≠ b → J S tgt L st) (kf : a = b → J S (pc + 3) L st) : J S pc L (.int (nI b) :: .int (nI a) :: st) :=
  r_icmp_ne X d ht (fun h => kt (fun z => h ((nI_eq ha hb).mpr z))) (fun h => kf ((nI_eq ha hb).mp h))
theorem r_if_neN (X : Cx E G own cc nL k J) {a : Nat} {off : Int} {tgt : Nat} (d : decode cc pc = .ok (.ifCond .ne off, 3)) (ht : (pc : Int) + off = (tgt : Int)) (ha : a < 2 ^ 31) (kt : a ≠ 0 → J S tgt L st) (kf : a = 0 → J S (pc + 3) L st) : J S pc L (.int (nI a) :: st) :=
  r_if_ne X d ht (fun h => kt (fun z => h (by rw [z]; exact nI_0))) (fun h => kf ((nI_eq (b := 0) ha (show (0 : Nat) < 2 ^ 31 by decide)).mp (h.trans nI_0.symm)))
theorem r_if_lt (X : Cx E G own cc nL k J) {x : Int32} {off : Int} {tgt : Nat} (d : decode cc pc = .ok (.ifCond .lt off, 3)) (ht : (pc : Int) + off = (tgt : Int)) (kt : x < 0 → J S tgt L st) (kf : ¬ x < 0 → J S (pc + 3) L st) : J S pc L (.int x :: st) := by
  obtain ⟨p, e, R, s, m, args, below, meth, c, A, sz, n1, n2, Q, ⟨hx, hb, hml, hown, hts⟩, hK, hN, hR, hE, hA, rfl⟩ := X
  intro H locs ls hP hz hS hl
  exact lv_if_lt hx hb d ht (fun h => kt h H locs ls hP hz hS hl) (fun h => kf (by first | exact h | exact Decidable.not_not.mp h) H locs ls hP hz hS hl)
theorem r_icmp_lt (X : Cx E G own cc nL k J) {x y : Int32} {off : Int} {tgt : Nat} (d : decode cc pc = .ok (.if_icmp .lt off, 3)) (ht : (pc : Int) + off = (tgt : Int)) (kt : x < y → J S tgt L st) (kf : ¬ x < y → J S (pc + 3) L st) : J S pc L (.int y :: .int x :: st) := by
  obtain ⟨p, e, R, s, m, args, below, meth, c, A, sz, n1, n2, Q, ⟨hx, hb, hml, hown, hts⟩, hK, hN, hR, hE, hA, rfl⟩ := X
  intro H locs ls hP hz hS hl
  exact lv_icmp_lt hx hb d ht (fun h => kt h H locs ls hP hz hS hl) (fun h => kf (by first | exact h | exact Decidable.not_not.mp h) H locs ls hP hz hS hl)
theorem r_icmp_ltN (X : Cx E G own cc nL k J) {a b : Nat} {off : Int} {tgt : Nat} (d : decode cc pc = .ok (.if_icmp .lt off, 3)) (ht : (pc : Int) + off = (tgt : Int)) (ha : a < 2 ^ 31) (hb : b < 2 ^ 31) (kt : a < b → J S tgt L st) (kf : b ≤ a → J S (pc + 3) L st) : J S pc L (.int (nI b) :: .int (nI a) :: st) :=
  r_icmp_lt X d ht (fun h => kt ((nI_ltI ha hb).mp h)) (fun h => kf (by have h2 : ¬ (a < b) := fun z => h ((nI_ltI ha hb).mpr z); omega))
theorem r_if_ge (X : Cx E G own cc nL k J) {x : Int32} {off : Int} {tgt : Nat} (d : decode cc pc = .ok (.ifCond .ge off, 3)) (ht : (pc : Int) + off = (tgt : Int)) (kt : 0 ≤ x → J S tgt L st) (kf : ¬ 0 ≤ x → J S (pc + 3) L st) : J S pc L (.int x :: st) := by
  obtain ⟨p, e, R, s, m, args, below, meth, c, A, sz, n1, n2, Q, ⟨hx, hb, hml, hown, hts⟩, hK, hN, hR, hE, hA, rfl⟩ := X
  intro H locs ls hP hz hS hl
  exact lv_if_ge hx hb d ht (fun h => kt h H locs ls hP hz hS hl) (fun h => kf (by first | exact h | exact Decidable.not_not.mp h) H locs ls hP hz hS hl)
theorem r_icmp_ge (X : Cx E G own cc nL k J) {x y : Int32} {off : Int} {tgt : Nat} (d : decode cc pc = .ok (.if_icmp .ge off, 3)) (ht : (pc : Int) + off = (tgt : Int)) (kt : y ≤ x → J S tgt L st) (kf : ¬ y ≤ x → J S (pc + 3) L st) : J S pc L (.int y :: .int x :: st) := by
  obtain ⟨p, e, R, s, m, args, below, meth, c, A, sz, n1, n2, Q, ⟨hx, hb, hml, hown, hts⟩, hK, hN, hR, hE, hA, rfl⟩ := X
  intro H locs ls hP hz hS hl
  exact lv_icmp_ge hx hb d ht (fun h => kt h H locs ls hP hz hS hl) (fun h => kf (by first | exact h | exact Decidable.not_not.mp h) H locs ls hP hz hS hl)
theorem r_icmp_geN (X : Cx E G own cc nL k J) {a b : Nat} {off : Int} {tgt : Nat} (d : decode cc pc = .ok (.if_icmp .ge off, 3)) (ht : (pc : Int) + off = (tgt : Int)) (ha : a < 2 ^ 31) (hb : b < 2 ^ 31) (kt : b ≤ a → J S tgt L st) (kf : a < b → J S (pc + 3) L st) : J S pc L (.int (nI b) :: .int (nI a) :: st) :=
  r_icmp_ge X d ht (fun h => kt ((nI_leI hb ha).mp h)) (fun h => kf (by have h2 : ¬ (b ≤ a) := fun z => h ((nI_leI hb ha).mpr z); omega))
theorem r_if_gt (X : Cx E G own cc nL k J) {x : Int32} {off : Int} {tgt : Nat} (d : decode cc pc = .ok (.ifCond .gt off, 3)) (ht : (pc : Int) + off = (tgt : Int)) (kt : 0 < x → J S tgt L st) (kf : ¬ 0 < x → J S (pc + 3) L st) : J S pc L (.int x :: st) := by
  obtain ⟨p, e, R, s, m, args, below, meth, c, A, sz, n1, n2, Q, ⟨hx, hb, hml, hown, hts⟩, hK, hN, hR, hE, hA, rfl⟩ := X
  intro H locs ls hP hz hS hl
  exact lv_if_gt hx hb d ht (fun h => kt h H locs ls hP hz hS hl) (fun h => kf (by first | exact h | exact Decidable.not_not.mp h) H locs ls hP hz hS hl)
theorem r_icmp_gt (X : Cx E G own cc nL k J) {x y : Int32} {off : Int} {tgt : Nat} (d : decode cc pc = .ok (.if_icmp .gt off, 3)) (ht : (pc : Int) + off = (tgt : Int)) (kt : y < x → J S tgt L st) (kf : ¬ y < x → J S (pc + 3) L st) : J S pc L (.int y :: .int x :: st) := by
  obtain ⟨p, e, R, s, m, args, below, meth, c, A, sz, n1, n2, Q, ⟨hx, hb, hml, hown, hts⟩, hK, hN, hR, hE, hA, rfl⟩ := X
  intro H locs ls hP hz hS hl
  exact lv_icmp_gt hx hb d ht (fun h => kt h H locs ls hP hz hS hl) (fun h => kf (by first | exact h | exact Decidable.not_not.mp h) H locs ls hP hz hS hl)
theorem r_icmp_gtN (X : Cx E G own cc nL k J) {a b : Nat} {off : Int} {tgt : Nat} (d : decode cc pc = .ok (.if_icmp .gt off, 3)) (ht : (pc : Int) + off = (tgt : Int)) (ha : a < 2 ^ 31) (hb : b < 2 ^ 31) (kt : b < a → J S tgt L st) (kf : a ≤ b → J S (pc + 3) L st) : J S pc L (.int (nI b) :: .int (nI a) :: st) :=
  r_icmp_gt X d ht (fun h => kt ((nI_ltI hb ha).mp h)) (fun h => kf (by have h2 : ¬ (b < a) := fun z => h ((nI_ltI hb ha).mpr z); omega))
theorem r_if_gtN (X : Cx E G own cc nL k J) {a : Nat} {off : Int} {tgt : Nat} (d : decode cc pc = .ok (.ifCond .gt off, 3)) (ht : (pc : Int) + off = (tgt : Int)) (ha : a < 2 ^ 31) (kt : 0 < a → J S tgt L st) (kf : a = 0 → J S (pc + 3) L st) : J S pc L (.int (nI a) :: st) :=
  r_if_gt X d ht (fun h => kt ((nI_ltI (a := 0) (show (0 : Nat) < 2 ^ 31 by decide) ha).mp (by rw [nI_0]; exact h))) (fun h => kf (by have h2 : ¬ 0 < a := fun z => h (by have h3 := (nI_ltI (a := 0) (show (0 : Nat) < 2 ^ 31 by decide) ha).mpr z; rw [nI_0] at h3; exact h3); omega))
theorem r_if_le (X : Cx E G own cc nL k J) {x : Int32} {off : Int} {tgt : Nat} (d : decode cc pc = .ok (.ifCond .le off, 3)) (ht : (pc : Int) + off = (tgt : Int)) (kt : x ≤ 0 → J S tgt L st) (kf : ¬ x ≤ 0 → J S (pc + 3) L st) : J S pc L (.int x :: st) := by
  obtain ⟨p, e, R, s, m, args, below, meth, c, A, sz, n1, n2, Q, ⟨hx, hb, hml, hown, hts⟩, hK, hN, hR, hE, hA, rfl⟩ := X
  intro H locs ls hP hz hS hl
  exact lv_if_le hx hb d ht (fun h => kt h H locs ls hP hz hS hl) (fun h => kf (by first | exact h | exact Decidable.not_not.mp h) H locs ls hP hz hS hl)
theorem r_icmp_le (X : Cx E G own cc nL k J) {x y : Int32} {off : Int} {tgt : Nat} (d : decode cc pc = .ok (.if_icmp .le off, 3)) (ht : (pc : Int) + off = (tgt : Int)) (kt : x ≤ y → J S tgt L st) (kf : ¬ x ≤ y → J S (pc + 3) L st) : J S pc L (.int y :: .int x :: st) := by
  obtain ⟨p, e, R, s, m, args, below, meth, c, A, sz, n1, n2, Q, ⟨hx, hb, hml, hown, hts⟩, hK, hN, hR, hE, hA, rfl⟩ := X
  intro H locs ls hP hz hS hl
  exact lv_icmp_le hx hb d ht (fun h => kt h H locs ls hP hz hS hl) (fun h => kf (by first | exact h | exact Decidable.not_not.mp h) H locs ls hP hz hS hl)
theorem r_icmp_leN (X : Cx E G own cc nL k J) {a b : Nat} {off : Int} {tgt : Nat} (d : decode cc pc = .ok (.if_icmp .le off, 3)) (ht : (pc : Int) + off = (tgt : Int)) (ha : a < 2 ^ 31) (hb : b < 2 ^ 31) (kt : a ≤ b → J S tgt L st) (kf : b < a → J S (pc + 3) L st) : J S pc L (.int (nI b) :: .int (nI a) :: st) :=
  r_icmp_le X d ht (fun h => kt ((nI_leI ha hb).mp h)) (fun h => kf (by have h2 : ¬ (a ≤ b) := fun z => h ((nI_leI ha hb).mpr z); omega))
theorem r_if_leN (X : Cx E G own cc nL k J) {a : Nat} {off : Int} {tgt : Nat} (d : decode cc pc = .ok (.ifCond .le off, 3)) (ht : (pc : Int) + off = (tgt : Int)) (ha : a < 2 ^ 31) (kt : a = 0 → J S tgt L st) (kf : 0 < a → J S (pc + 3) L st) : J S pc L (.int (nI a) :: st) :=
  r_if_le X d ht (fun h => kt (by have h2 : a ≤ 0 := (nI_leI (b := 0) ha (show (0 : Nat) < 2 ^ 31 by decide)).mp (by rw [nI_0]; exact h); omega)) (fun h => kf (by have h2 : ¬ a ≤ 0 := fun z => h (by have h3 := (nI_leI (b := 0) ha (show (0 : Nat) < 2 ^ 31 by decide)).mpr z; rw [nI_0] at h3; exact h3); omega))
theorem r_goto (X : Cx E G own cc nL k J) {off : Int} {tgt : Nat} (d : decode cc pc = .ok (.goto off, 3)) (ht : (pc : Int) + off = (tgt : Int)) (kk : J S tgt L st) : J S pc L st := by
  obtain ⟨p, e, R, s, m, args, below, meth, c, A, sz, n1, n2, Q, ⟨hx, hb, hml, hown, hts⟩, hK, hN, hR, hE, hA, rfl⟩ := X
  intro H locs ls hP hz hS hl
  exact lv_goto hx hb d ht (kk H locs ls hP hz hS hl)
theorem r_iaddN (X : Cx E G own cc nL k J) {a b : Nat} (d : decode cc pc = .ok (.iadd, 1)) (kk : J S (pc + 1) L (.int (nI (a + b)) :: st)) : J S pc L (.int (nI b) :: .int (nI a) :: st) :=
  r_iadd X d (by rw [nI_add]; exact kk)
theorem r_imulN (X : Cx E G own cc nL k J) {a b : Nat} (d : decode cc pc = .ok (.imul, 1)) (kk : J S (pc + 1) L (.int (nI (a * b)) :: st)) : J S pc L (.int (nI b) :: .int (nI a) :: st) :=
  r_imul X d (by rw [pk_mul]; exact kk)
theorem r_isubN (X : Cx E G own cc nL k J) {a b : Nat} (d : decode cc pc = .ok (.isub, 1)) (h : b ≤ a) (kk : J S (pc + 1) L (.int (nI (a - b)) :: st)) : J S pc L (.int (nI b) :: .int (nI a) :: st) :=
  r_isub X d (by rw [pk_sub h]; exact kk)
theorem r_iremN (X : Cx E G own cc nL k J) {a b : Nat} (d : decode cc pc = .ok (.irem, 1)) (hb0 : 0 < b) (hb : b < 2 ^ 31) (ha : a < 2 ^ 31) (kk : J S (pc + 1) L (.int (nI (a % b)) :: st)) : J S pc L (.int (nI b) :: .int (nI a) :: st) :=
  r_irem X d (nI_ne0 hb0 hb) (by rw [pk_rem ha hb0 hb]; exact kk)
theorem r_idivN (X : Cx E G own cc nL k J) {a b : Nat} (d : decode cc pc = .ok (.idiv, 1)) (hb0 : 0 < b) (hb : b < 2 ^ 31) (ha : a < 2 ^ 31) (kk : J S (pc + 1) L (.int (nI (a / b)) :: st)) : J S pc L (.int (nI b) :: .int (nI a) :: st) :=
  r_idiv X d (nI_ne0 hb0 hb) (by rw [pk_div ha hb0 hb]; exact kk)
theorem r_int {x y : Int32} (h : x = y) (kk : J S pc L (.int y :: st)) : J S pc L (.int x :: st) := h ▸ kk
theorem r_int2 {v : Value} {x y : Int32} (h : x = y) (kk : J S pc L (v :: .int y :: st)) : J S pc L (v :: .int x :: st) := h ▸ kk
theorem r_st {S' : Sg} (h : S = S') (kk : J S' pc L st) : J S pc L st := h ▸ kk
theorem r_pc {pc' : Nat} (h : pc = pc') (kk : J S pc' L st) : J S pc L st := h ▸ kk
theorem r_forget (X : Cx E G own cc nL k J) {L' : List (Option Value)} (hs : ∀ (i : Nat) (v : Value), L'[i]? = some (some v) → L[i]? = some (some v)) (kk : J S pc L' st) : J S pc L st := by
  obtain ⟨p, e, R, s, m, args, below, meth, c, A, sz, n1, n2, Q, ⟨hx, hb, hml, hown, hts⟩, hK, hN, hR, hE, hA, rfl⟩ := X
  intro H locs ls hP hz hS hl
  exact kk H locs ls hP hz hS (lo_forget hl hs)
theorem r_drop (X : Cx E G own cc nL k J) (i : Nat) (kk : J S pc (L.set i none) st) : J S pc L st := by
  refine r_forget X (fun j v h => ?_) kk
  rw [List.getElem?_set] at h
  split at h
  · split at h <;> cases h
  · exact h
def lkF (W : List Cond) (cl : List vw_C) (own : String) (idx ci kf : Nat) : Prop := ∃ (C : String) (T : u_T) (N : Nat), cl[ci]? = some (C, T, N) ∧ kf < N ∧ (∀ w ∈ u_ws C T N, w ∈ W) ∧ Cond.fieldLink own idx (T kf).1 (T kf).2.1 (T kf).2.2.1 ∈ W
theorem r_get (X : Cx E G own cc nL k J) {idx ci kf a : Nat} {F : Int32 → List Value} {v : Value} (hf : lkF (eW E) (eC E) own idx ci kf) (d : decode cc pc = .ok (.getfield idx, 3)) (hG : G a = some (kObj ci F)) (hv : (F (S.2 a))[kf]? = some v) (kk : J S (pc + 3) L (v :: st)) : J S pc L (.ref a :: st) := by
  obtain ⟨p, e, R, s, m, args, below, meth, c, A, sz, n1, n2, Q, ⟨hx, hb, hml, hown, hts⟩, hK, hN, hR, hE, hA, rfl⟩ := X
  intro H locs ls hP hz hS hl
  obtain ⟨C, T, N, hc, hk, hin, hlk⟩ := hf
  exact va_get (ci := ci) (v := v) hx hb hts hin hown hK (hP.one (wl_obj hG)) 0 rfl hc kf hk (hts _ hlk) (fun _ h9 => h9) hv d (kk H locs ls hP hz hS hl)
def lkP (W : List Cond) (cl : List vw_C) (own : String) (idx ci kf : Nat) : Prop := ∃ (C : String) (T : u_T) (N : Nat) (ty : Nat → FieldType), cl[ci]? = some (C, T, N) ∧ kf < N ∧ (∀ w ∈ u_ws C T N, w ∈ W) ∧ Cond.fieldLink own idx (T kf).1 (T kf).2.1 (T kf).2.2.1 ∈ W ∧ (∀ j, j < N → parseFieldDescriptor (T j).2.2.1 = some (ty j)) ∧ (∀ a, a < N → ∀ b, b < N → a ≠ b → (T a).2.1 ≠ (T b).2.1) ∧ (T kf).2.2.2 = false ∧ ty kf = .int
theorem r_put (X : Cx E G own cc nL k J) {idx ci kf a : Nat} {F : Int32 → List Value} {x : Int32} (hf : lkP (eW E) (eC E) own idx ci kf) (d : decode cc pc = .ok (.putfield idx, 3)) (hG : G a = some (kObj ci F)) (hs : (F (S.2 a)).set kf (.int x) = F x) (hl : kf < (F (S.2 a)).length) (kk : J (fdS S a x) (pc + 3) L st) : J S pc L (.int x :: .ref a :: st) := by
  obtain ⟨p, e, R, s, m, args, below, meth, c, A, sz, n1, n2, Q, ⟨hx, hb, hml, hown, hts⟩, hK, hN, hR, hE, hA, rfl⟩ := X
  intro H locs ls hP hz hS hll
  obtain ⟨C, T, N, ty, hc, hk, hin, hlk, hty, hnm, hfin, hti⟩ := hf
  have hap := va_apart (own := own) hts hin ty hty hnm hK hc
  obtain ⟨r, h1, cell, q1, q2, q3, q4⟩ := hP a _ (wl_obj hG)
  have hr : r = (C, T, N) := Option.some.inj (h1.symm.trans hc)
  subst hr
  obtain ⟨hSl, hfc, kC, hkC, hkind⟩ := hK.1 ci _ hc
  obtain ⟨cf, kf', fi, f, hi, hsl⟩ := hSl kf hk
  have hlay := hts _ (hin _ (u_in_lay hk))
  unfold u_lay at hlay
  rw [if_neg (by rw [hfin]; decide)] at hlay
  have hst := (u_facts hfc hkC (u_lays hts hin hk) hi).1
  have hd : parseFieldDescriptor (T kf).2.2.1 = some .int := by rw [hty kf hk, hti]
  have h6 := u_store (v := .int x) hfc hkC hkind hlay hi hd rfl rfl
  refine W.putK hx hb (f := f) ⟨hown, hts _ hlk, ⟨_, _, _, hi⟩, hst⟩ (by rw [q2]; exact h6) q1 q3 (by rw [hsl]; exact k2_hasslot (q4 kf hk)) rfl rfl d fun H' e1 e2 e3 => ?_
  rw [hsl] at e1 ⊢
  refine kk H' _ ls (hP.put e3 (fun q hq => ?_) (fun e he => ?_)) (e2.trans hz) (hS.put e2 e3 (hA a (fun h => by rw [hG] at h; cases h))) hll
  · unfold wl
    rw [fdS_1, fdS_2n hq]
  · rw [wl_obj hG] at he
    cases he
    rw [fdS_2]
    exact ⟨_, hc, t_OB.to (V := updV (vp_V (F (S.2 a))) kf (.int x)) ⟨_, e1, q2, q3, t_set q4 hap hk _⟩ (fun j _ => by rw [vp_updV_set hl, hs])⟩
theorem r_alen (X : Cx E G own cc nL k J) {a n : Nat} (d : decode cc pc = .ok (.arraylength, 1)) (hG : G a = some (kArr n)) (kk : J S (pc + 1) L (.int (nI n) :: st)) : J S pc L (.ref a :: st) := by
  obtain ⟨p, e, R, s, m, args, below, meth, c, A, sz, n1, n2, Q, ⟨hx, hb, hml, hown, hts⟩, hK, hN, hR, hE, hA, rfl⟩ := X
  intro H locs ls hP hz hS hl
  exact va_alen hx hb hK (hP.one (wl_arr hG)) 0 0 rfl hE.2.2 rfl d (kk H locs ls hP hz hS hl)
theorem r_iald (X : Cx E G own cc nL k J) {a n j : Nat} (d : decode cc pc = .ok (.iaload, 1)) (hG : G a = some (kArr n)) (hj : j < n) (hn : n < 2 ^ 31) (kk : J S (pc + 1) L (.int (nI (S.1 a j)) :: st)) : J S pc L (.int (nI j) :: .ref a :: st) := by
  obtain ⟨p, e, R, s, m, args, below, meth, c, A, sz, n1, n2, Q, ⟨hx, hb, hml, hown, hts⟩, hK, hN, hR, hE, hA, rfl⟩ := X
  intro H locs ls hP hz hS hl
  refine va_iald hx hb hK (hP.one (wl_arr hG)) 0 0 rfl hE.2.2 (vp_in_nI hj hn) d ?_
  rw [nI_clamp (Nat.lt_trans hj hn)]
  exact kk H locs ls hP hz hS hl
theorem r_iast (X : Cx E G own cc nL k J) {a n j v : Nat} (d : decode cc pc = .ok (.iastore, 1)) (hG : G a = some (kArr n)) (hj : j < n) (hn : n < 2 ^ 31) (kk : J (arS S a (va_up (S.1 a) j v)) (pc + 1) L st) : J S pc L (.int (nI v) :: .int (nI j) :: .ref a :: st) := by
  obtain ⟨p, e, R, s, m, args, below, meth, c, A, sz, n1, n2, Q, ⟨hx, hb, hml, hown, hts⟩, hK, hN, hR, hE, hA, rfl⟩ := X
  intro H locs ls hP hz hS hll
  have hc := hP a _ (wl_arr hG)
  have hin : vp_in (nI j) n := vp_in_nI hj hn
  refine W.iast hx hb hc ((hK.2 0 _ hE.2.2).1 n (fun i => .int (nI (S.1 a i)))) (fun q => by cases q) (by show ¬ (nI j < 0 ∨ (arrV _ _ _).slots.size ≤ _); rw [arrV_size]; exact hin) rfl rfl d fun H1 e z oq => ?_
  refine kk H1 _ ls (hP.put oq (fun q hq => ?_) (fun e' he => ?_)) (z.trans hz) (hS.put z oq (hA a (fun h => by rw [hG] at h; cases h))) hll
  · unfold wl
    rw [arS_1n hq, arS_2]
  · rw [wl_arr hG] at he
    cases he
    show H1[a]? = some (vp_cell _ _)
    rw [e]
    rw [vp_cell_i, vp_cell_i, arrV_store, arS_1, nI_clamp (Nat.lt_trans hj hn)]
    congr 2
    funext q
    by_cases hq : q = j
    · subst hq
      simp [updV, va_up]
    · simp [updV, va_up, hq]
theorem r_aald (X : Cx E G own cc nL k J) {a n j q : Nat} {cA : ClassId} {C : String} {f : Nat → Option Nat} (d : decode cc pc = .ok (.aaload, 1)) (hG : G a = some (kFix (.inl (cA, n, .inr (.inr (.inr (.inr f))))))) (hT : (eT E)[1]? = some (cA, .object C)) (hj : j < n) (hn : n < 2 ^ 31) (hf : f j = some q) (kk : J S (pc + 1) L (.ref q :: st)) : J S pc L (.int (nI j) :: .ref a :: st) := by
  obtain ⟨p, e, R, s, m, args, below, meth, c, A, sz, n1, n2, Q, ⟨hx, hb, hml, hown, hts⟩, hK, hN, hR, hE, hA, rfl⟩ := X
  intro H locs ls hP hz hS hl
  refine va_aldq hx hb hK (hP.one (wl_fix hG)) 0 1 rfl hT (vp_in_nI hj hn) d ?_
  rw [nI_clamp (Nat.lt_trans hj hn), hf]
  exact kk H locs ls hP hz hS hl
theorem r_run {p : Program} {e : Env} {R : Room} {s : State} {m : MethodId} {args : Array Value} {below : List Frame} {meth : Method} {c : Code} {H : Heap} {locs : List Loc} {n1 n2 : Nat} {Q : State → Prop} {A : Nat → Prop} {ls : Array Slot} {rest : List Value} {a : Array Value} {post : Sg → Option Value → Prop} (hr : va_Run p (eL E) e R s m args below meth c H locs n1 n2 0 0 (F0 m pc ls st) rest (wQ E G post a) (dG G)) (hS : va_S A s.heap H locs) (hA : ∀ q, dG G q → A q)
    (kk : ∀ (S' : Sg) (v : Option Value) (H1 : Heap) (locs1 : List Loc), post S' v → wP E G S' H1 → H1.size = H.size → va_S A s.heap H1 locs1 → W p (eL E) e R s m args below meth c H1 locs1 n1 n2 Q (F0 m (pc + 3) ls (v.toList ++ rest))) : W p (eL E) e R s m args below meth c H locs n1 n2 Q (F0 m pc ls st) := by
  intro T hT X
  obtain ⟨v, st₀, t, T', L, h0, X', hL, e1, e2, ⟨⟨S', v', hv, hp, hb⟩, hzz, hz, hk⟩, sst⟩ := hr T hT X
  cases hv
  rw [h0] at hzz hz hk
  obtain ⟨t2, a1, b1⟩ := kk S' v T'.heap (locs ++ L) hp (by rw [e1]; exact hb) (by rw [e1]; exact hzz)
    ⟨Nat.le_trans hS.1 (by rw [e1]; exact hz), fun q h1 h2 => by rw [e1, hk q (Nat.lt_of_lt_of_le h1 hS.1) (fun z => h2 (hA q z))]; exact hS.2.1 q h1 h2, fun q hq => by
      rcases List.mem_append.mp hq with h | h
      · exact hS.2.2 q h
      · exact hA _ (hL q h)⟩ T' rfl X'
  exact ⟨t2, sst t2 a1, b1⟩
theorem wPc_blind {av : List Value} (hE : eOK E) : FrameBlind (va_Pc av (wPc E G S)) := by
  intro a U g mk q
  obtain ⟨q0, qP, qK, qN⟩ := q
  exact ⟨q0, qP, va_K.moved (u := U) (U := U.calling g mk a) (Vm.Alike.refl U.vm) qK, fun w hw => nw_same (hE.2.1 w hw) (s := U) (U := U.calling g mk a) rfl (qN w hw)⟩
theorem wPc_at {s : State} {H : Heap} {av : List Value} (hE : eOK E) (hP : wP E G S H) (hK : va_K (eD E) (eC E) (eT E) s) (hN : ∀ w ∈ eN E, va_Nw w s) : ∀ U : State, U.heap = H → s.WarmedH U.vm → va_Pc av (wPc E G S) av.toArray U :=
  fun U hU hW => ⟨rfl, by rw [hU]; exact hP, va_K.moved hW.alike hK, fun w hw => nw_warm (hE.2.1 w hw) hW (hN w hw)⟩
theorem gd_in {y : MethodName} {c2 : ByteArray} {nL2 : Nat} {ret2 : Option FieldType} (hE : eOK E) (hc : Cond.code y c2 nL2 ret2 ∈ eW E) : GoodIn (eW E) (Cond.code y c2 nL2 ret2 :: eW E) := by
  intro w hw
  rcases List.mem_cons.mp hw with rfl | h
  · exact ⟨hc, hE.1 _ hc⟩
  · exact ⟨h, hE.1 _ h⟩
def lkS (W : List Cond) (own : String) (idx : Nat) (y : MethodName) (c2 : ByteArray) (nL2 : Nat) (ret2 : Option FieldType) (n : Nat) : Prop :=
  Cond.code y c2 nL2 ret2 ∈ W ∧ Cond.methodLink own idx y ∈ W ∧ Cond.static y ∈ W ∧ Cond.initialized y.cls ∈ W ∧ (y.cls ≠ "java/lang/invoke/MethodHandle" ∧ y.cls ≠ "java/lang/invoke/VarHandle" ∧ (parseMethodDescriptor y.desc).map (fun d => d.parameters.length) = some n) ∧ nL2 ≤ 21
theorem r_callS (X : Cx E G own cc nL k J) {idx nL2 n k2 : Nat} {y : MethodName} {c2 : ByteArray} {ret2 : Option FieldType} {As rest : List Value} {post : Sg → Option Value → Prop} (hl : lkS (eW E) own idx y c2 nL2 ret2 n) (hM : CT E G y c2 nL2 ret2 k2 As S post) (hk : k2 + 1 ≤ k) (hn : As.length = n) (hw : (rest.map fun v => v.category).sum ≤ 8) (d : decode cc pc = .ok (.invokestatic idx, 3)) (hst : st = As.reverse ++ rest)
    (kk : ∀ (S' : Sg) (v : Option Value), post S' v → J S' (pc + 3) L (v.toList ++ rest)) : J S pc L st := by
  obtain ⟨p, e, R, s, m, args, below, meth, c, A, sz, n1, n2, Q, ⟨hx, hb, hml, hown, hts⟩, hK, hN, hR, hE, hA, rfl⟩ := X
  intro H locs ls hP hz hS hll
  obtain ⟨w1, w2, w3, w4, w5, w6⟩ := hl
  subst hst
  refine r_run (va_runS (cc := cc) (nL := nL) (Ts := eW E) (own := own) (As := As) (rest := rest) ⟨hx, hb, hml, hown, hts⟩ hM ⟨callB_of n hts (gd_in hE w1) rfl rfl rfl (hts _ w4) (hts _ w2) w5 ⟨by show k2 + 1 ≤ R.frames; omega, by show 8 + (nL2 + 11) + 40 * k2 ≤ R.locals; omega⟩, hts _ w3⟩ ⟨wPc_blind hE, wPc_at hE hP hK hN⟩ rfl hn hll.1.1 rfl (lv_room hw) d ⟨hR.2.2.1, hR.2.2.2⟩) hS hA (fun S' v H1 locs1 hp hP1 hz1 hS1 => kk S' v hp H1 locs1 ls hP1 (hz1.trans hz) hS1 hll)
def lkV (W : List Cond) (cl : List vw_C) (own : String) (idx ci : Nat) (y : MethodName) (c2 : ByteArray) (nL2 : Nat) (ret2 : Option FieldType) (n : Nat) : Prop :=
  Cond.code y c2 nL2 ret2 ∈ W ∧ Cond.methodLink own idx y ∈ W ∧ Cond.instanceMethod y ∈ W ∧ Cond.selects y.cls y y ∈ W ∧ Cond.initialized y.cls ∈ W ∧ (y.cls ≠ "java/lang/invoke/MethodHandle" ∧ y.cls ≠ "java/lang/invoke/VarHandle" ∧ (parseMethodDescriptor y.desc).map (fun d => d.parameters.length) = some n) ∧ nL2 ≤ 21 ∧ ∃ q : vw_C, cl[ci]? = some q ∧ q.1 = y.cls
theorem r_callV (X : Cx E G own cc nL k J) {idx ci nL2 n k2 b : Nat} {F : Int32 → List Value} {y : MethodName} {c2 : ByteArray} {ret2 : Option FieldType} {As rest : List Value} {post : Sg → Option Value → Prop} (hl : lkV (eW E) (eC E) own idx ci y c2 nL2 ret2 n) (hM : CT E G y c2 nL2 ret2 k2 (.ref b :: As) S post) (hG : G b = some (kObj ci F)) (hk : k2 + 1 ≤ k) (hn : As.length = n) (hw : (rest.map fun v => v.category).sum ≤ 8) (d : decode cc pc = .ok (.invokevirtual idx, 3)) (hst : st = As.reverse ++ .ref b :: rest)
    (kk : ∀ (S' : Sg) (v : Option Value), post S' v → J S' (pc + 3) L (v.toList ++ rest)) : J S pc L st := by
  obtain ⟨p, e, R, s, m, args, below, meth, c, A, sz, n1, n2, Q, ⟨hx, hb, hml, hown, hts⟩, hK, hN, hR, hE, hA, rfl⟩ := X
  intro H locs ls hP hz hS hll
  obtain ⟨w1, w2, w3, w7, w4, w5, w6, q, hq, hqy⟩ := hl
  subst hst
  have hrv := va_recv hK (hP.one (wl_obj hG)) hq (q0 := 0) rfl
  rw [hqy] at hrv
  refine r_run (va_runV (cc := cc) (nL := nL) (Ts := eW E) (own := own) (C := y.cls) (b := b) (As := As) (rest := rest) ⟨hx, hb, hml, hown, hts⟩ hM ⟨callB_of n hts (gd_in hE w1) rfl rfl rfl (hts _ w4) (hts _ w2) w5 ⟨by show k2 + 1 ≤ R.frames; omega, by show 8 + (nL2 + 11) + 40 * k2 ≤ R.locals; omega⟩, hts _ w3, hts _ w7⟩ ⟨wPc_blind hE, hrv, wPc_at hE hP hK hN⟩ rfl hn hll.1.1 rfl (lv_room hw) d ⟨hR.2.2.1, hR.2.2.2⟩) hS hA (fun S' v H1 locs1 hp hP1 hz1 hS1 => kk S' v hp H1 locs1 ls hP1 (hz1.trans hz) hS1 hll)
end RW
def Pv (q : Sg → Prop) : Sg → Option Value → Prop := fun S v => v = none ∧ q S
def Pi (q : Sg → Int32 → Prop) : Sg → Option Value → Prop := fun S v => ∃ x : Int32, v = some (.int x) ∧ q S x
section RX
variable {E : Ev} {G : Gm} {own : String} {cc : ByteArray} {nL k : Nat} {J : Jt} {S : Sg} {pc : Nat} {L : List (Option Value)} {st : List Value}
theorem r_cSi (X : Cx E G own cc nL k J) {idx nL2 n k2 : Nat} {y : MethodName} {c2 : ByteArray} {ret2 : Option FieldType} {As rest : List Value} {q : Sg → Int32 → Prop} (hl : lkS (eW E) own idx y c2 nL2 ret2 n) (hM : CT E G y c2 nL2 ret2 k2 As S (Pi q)) (hk : k2 + 1 ≤ k) (hn : As.length = n) (hw : (rest.map fun v => v.category).sum ≤ 8) (d : decode cc pc = .ok (.invokestatic idx, 3)) (hst : st = As.reverse ++ rest)
    (kk : ∀ (S' : Sg) (x : Int32), q S' x → J S' (pc + 3) L (.int x :: rest)) : J S pc L st :=
  r_callS X hl hM hk hn hw d hst (fun S' v ⟨x, hv, hq⟩ => by subst hv; exact kk S' x hq)
theorem r_cSv (X : Cx E G own cc nL k J) {idx nL2 n k2 : Nat} {y : MethodName} {c2 : ByteArray} {ret2 : Option FieldType} {As rest : List Value} {q : Sg → Prop} (hl : lkS (eW E) own idx y c2 nL2 ret2 n) (hM : CT E G y c2 nL2 ret2 k2 As S (Pv q)) (hk : k2 + 1 ≤ k) (hn : As.length = n) (hw : (rest.map fun v => v.category).sum ≤ 8) (d : decode cc pc = .ok (.invokestatic idx, 3)) (hst : st = As.reverse ++ rest)
    (kk : ∀ (S' : Sg), q S' → J S' (pc + 3) L rest) : J S pc L st :=
  r_callS X hl hM hk hn hw d hst (fun S' v ⟨hv, hq⟩ => by subst hv; exact kk S' hq)
theorem r_cVi (X : Cx E G own cc nL k J) {idx ci nL2 n k2 b : Nat} {F : Int32 → List Value} {y : MethodName} {c2 : ByteArray} {ret2 : Option FieldType} {As rest : List Value} {q : Sg → Int32 → Prop} (hl : lkV (eW E) (eC E) own idx ci y c2 nL2 ret2 n) (hM : CT E G y c2 nL2 ret2 k2 (.ref b :: As) S (Pi q)) (hG : G b = some (kObj ci F)) (hk : k2 + 1 ≤ k) (hn : As.length = n) (hw : (rest.map fun v => v.category).sum ≤ 8) (d : decode cc pc = .ok (.invokevirtual idx, 3)) (hst : st = As.reverse ++ .ref b :: rest)
    (kk : ∀ (S' : Sg) (x : Int32), q S' x → J S' (pc + 3) L (.int x :: rest)) : J S pc L st :=
  r_callV X hl hM hG hk hn hw d hst (fun S' v ⟨x, hv, hq⟩ => by subst hv; exact kk S' x hq)
theorem r_cVv (X : Cx E G own cc nL k J) {idx ci nL2 n k2 b : Nat} {F : Int32 → List Value} {y : MethodName} {c2 : ByteArray} {ret2 : Option FieldType} {As rest : List Value} {q : Sg → Prop} (hl : lkV (eW E) (eC E) own idx ci y c2 nL2 ret2 n) (hM : CT E G y c2 nL2 ret2 k2 (.ref b :: As) S (Pv q)) (hG : G b = some (kObj ci F)) (hk : k2 + 1 ≤ k) (hn : As.length = n) (hw : (rest.map fun v => v.category).sum ≤ 8) (d : decode cc pc = .ok (.invokevirtual idx, 3)) (hst : st = As.reverse ++ .ref b :: rest)
    (kk : ∀ (S' : Sg), q S' → J S' (pc + 3) L rest) : J S pc L st :=
  r_callV X hl hM hG hk hn hw d hst (fun S' v ⟨hv, hq⟩ => by subst hv; exact kk S' hq)
end RX
section RY
variable {E : Ev} {G : Gm} {own : String} {cc : ByteArray} {nL k : Nat} {J : Jt} {S : Sg} {pc : Nat} {L : List (Option Value)} {st : List Value}
def lkM (W : List Cond) (own : String) (idx : Nat) (y : MethodName) (c2 : ByteArray) (n : Nat) : Prop := Cond.methodLink own idx y ∈ W ∧ Cond.static y ∈ W ∧ Cond.initialized "java/lang/Math" ∈ W ∧ Cond.code y c2 n (some .int) ∈ W
theorem r_mmax (X : Cx E G own cc nL k J) {idx : Nat} {x y : Int32} (hl : lkM (eW E) own idx Lib.Math.max.name Lib.Math.max.code 2) (hk : 1 ≤ k) (hw : (st.map fun v => v.category).sum ≤ 8) (d : decode cc pc = .ok (.invokestatic idx, 3)) (kk : J S (pc + 3) L (.int (if x < y then y else x) :: st)) : J S pc L (.int y :: .int x :: st) := by
  obtain ⟨p, e, R, s, m, args, below, meth, c, A, sz, n1, n2, Q, ⟨hx, hb, hml, hown, hts⟩, hK, hN, hR, hE, hA, rfl⟩ := X
  intro H locs ls hP hz hS hll
  exact va_mmax hx hb (hml.trans hll.1.1.symm) hown (hts _ hl.1) (hts _ hl.2.1) (hts _ hl.2.2.1) (hts _ hl.2.2.2) (by omega) (by omega) hR.2.2.1 hR.2.2.2 d (kk H locs ls hP hz hS hll)
theorem r_mmin (X : Cx E G own cc nL k J) {idx : Nat} {x y : Int32} (hl : lkM (eW E) own idx Lib.Math.min.name Lib.Math.min.code 2) (hk : 1 ≤ k) (hw : (st.map fun v => v.category).sum ≤ 8) (d : decode cc pc = .ok (.invokestatic idx, 3)) (kk : J S (pc + 3) L (.int (if y < x then y else x) :: st)) : J S pc L (.int y :: .int x :: st) := by
  obtain ⟨p, e, R, s, m, args, below, meth, c, A, sz, n1, n2, Q, ⟨hx, hb, hml, hown, hts⟩, hK, hN, hR, hE, hA, rfl⟩ := X
  intro H locs ls hP hz hS hll
  exact va_mmin hx hb (hml.trans hll.1.1.symm) hown (hts _ hl.1) (hts _ hl.2.1) (hts _ hl.2.2.1) (hts _ hl.2.2.2) (by omega) (by omega) hR.2.2.1 hR.2.2.2 d (kk H locs ls hP hz hS hll)
theorem r_mabs (X : Cx E G own cc nL k J) {idx : Nat} {x : Int32} (hl : lkM (eW E) own idx Lib.Math.abs.name Lib.Math.abs.code 1) (hk : 1 ≤ k) (hw : (st.map fun v => v.category).sum ≤ 8) (d : decode cc pc = .ok (.invokestatic idx, 3)) (kk : J S (pc + 3) L (.int (if 0 ≤ x then x else 0 - x) :: st)) : J S pc L (.int x :: st) := by
  obtain ⟨p, e, R, s, m, args, below, meth, c, A, sz, n1, n2, Q, ⟨hx, hb, hml, hown, hts⟩, hK, hN, hR, hE, hA, rfl⟩ := X
  intro H locs ls hP hz hS hll
  exact va_mabs hx hb (hml.trans hll.1.1.symm) hown (hts _ hl.1) (hts _ hl.2.1) (hts _ hl.2.2.1) (hts _ hl.2.2.2) (by omega) (by omega) hR.2.2.1 hR.2.2.2 d (kk H locs ls hP hz hS hll)
theorem r_mmaxN (X : Cx E G own cc nL k J) {idx a b : Nat} (hl : lkM (eW E) own idx Lib.Math.max.name Lib.Math.max.code 2) (hk : 1 ≤ k) (hw : (st.map fun v => v.category).sum ≤ 8) (ha : a < 2 ^ 31) (hb : b < 2 ^ 31) (d : decode cc pc = .ok (.invokestatic idx, 3)) (kk : J S (pc + 3) L (.int (nI (max a b)) :: st)) : J S pc L (.int (nI b) :: .int (nI a) :: st) := by
  refine r_mmax X hl hk hw d ?_
  rw [show (if nI a < nI b then nI b else nI a) = nI (max a b) by
    by_cases h : a < b
    · rw [if_pos ((nI_ltI ha hb).mpr h), Nat.max_eq_right (by omega)]
    · rw [if_neg (fun z => h ((nI_ltI ha hb).mp z)), Nat.max_eq_left (by omega)]]
  exact kk
theorem r_mminN (X : Cx E G own cc nL k J) {idx a b : Nat} (hl : lkM (eW E) own idx Lib.Math.min.name Lib.Math.min.code 2) (hk : 1 ≤ k) (hw : (st.map fun v => v.category).sum ≤ 8) (ha : a < 2 ^ 31) (hb : b < 2 ^ 31) (d : decode cc pc = .ok (.invokestatic idx, 3)) (kk : J S (pc + 3) L (.int (nI (min a b)) :: st)) : J S pc L (.int (nI b) :: .int (nI a) :: st) := by
  refine r_mmin X hl hk hw d ?_
  rw [show (if nI b < nI a then nI b else nI a) = nI (min a b) by
    by_cases h : b < a
    · rw [if_pos ((nI_ltI hb ha).mpr h), Nat.min_eq_right (by omega)]
    · rw [if_neg (fun z => h ((nI_ltI hb ha).mp z)), Nat.min_eq_left (by omega)]]
  exact kk
def lkY (W : List Cond) (own : String) (idx : Nat) : Prop := Cond.methodLink own idx arraycopyName ∈ W ∧ Cond.native arraycopyName ∈ W ∧ Cond.static arraycopyName ∈ W ∧ Cond.initialized "java/lang/System" ∈ W
theorem cpy_nI (f g : Nat → Nat) (sp dp n : Nat) : va_cpy (fun i => nI (f i)) (fun i => nI (g i)) sp dp n = fun i => nI (va_cpy f g sp dp n i) := by
  funext i
  unfold va_cpy
  split <;> rfl
theorem r_copy (X : Cx E G own cc nL k J) {idx a0 a n0 n1 sp dp n : Nat} (hl : lkY (eW E) own idx) (hk : 1 ≤ k) (hG0 : G a0 = some (kArr n0)) (hG1 : G a = some (kArr n1)) (h4 : sp + n ≤ n0) (h5 : dp + n ≤ n1) (hb0 : n0 < 2 ^ 31) (hb1 : n1 < 2 ^ 31) (hst : st = []) (d : decode cc pc = .ok (.invokestatic idx, 3)) (kk : J (arS S a (va_cpy (S.1 a0) (S.1 a) sp dp n)) (pc + 3) L st) : J S pc L (.int (nI n) :: .int (nI dp) :: .ref a :: .int (nI sp) :: .ref a0 :: st) := by
  obtain ⟨p, e, R, s, m, args, below, meth, c, A, sz, m1, m2, Q, ⟨hx, hb, hml, hown, hts⟩, hK, hN, hR, hE, hA, rfl⟩ := X
  intro H locs ls hP hz hS hll
  subst hst
  have hc0 : H[a0]? = some (vp_cell (eI E) (n0, .inl (fun i => nI (S.1 a0 i)))) := hP a0 _ (wl_arr hG0)
  have hc1 : H[a]? = some (vp_cell (eI E) (n1, .inl (fun i => nI (S.1 a i)))) := hP a _ (wl_arr hG1)
  have nn : ∀ z : Nat, z < 2 ^ 31 → (nI z).toInt = (z : Int) := fun z hz => nI_toInt hz
  have ks : (nI sp).toNatClampNeg = sp := nI_clamp (by omega)
  have kd : (nI dp).toNatClampNeg = dp := nI_clamp (by omega)
  have kn : (nI n).toNatClampNeg = n := nI_clamp (by omega)
  intro T hT X
  obtain ⟨-, k0, hk0, cm0, hkk0⟩ := (hK.2 0 _ hE.2.2).1 n0 (fun j => .int (nI (S.1 a0 j)))
  obtain ⟨-, k1, hk1, cm1, hkk1⟩ := (hK.2 0 _ hE.2.2).1 n1 (fun j => .int (nI (S.1 a j)))
  obtain ⟨vm', X', step⟩ := X.arraycopy hx hown (hts _ hl.1) (hts _ hl.2.1) (hts _ hl.2.2.1) (hts _ hl.2.2.2) (src := a0) (dst := a) (cs := vp_cell (eI E) (n0, .inl (fun i => nI (S.1 a0 i)))) (cd := vp_cell (eI E) (n1, .inl (fun i => nI (S.1 a i)))) (srcPos := nI sp) (destPos := nI dp) (n := nI n) (by rw [hT]; exact hc0) (by rw [hT]; exact hc1)
    (fun _ h => by cases h) (fun _ h => by cases h) (fun h => by cases h) (fun h => by cases h) hk0 hk1 hkk0 hkk1 (by simp [refKind]) (nI_pos (by omega)) (nI_pos (by omega)) (nI_pos (by omega))
    (by rw [nn sp (by omega), nn n (by omega)]; show ¬ _ > ((arrV (eI E) n0 (fun j => .int (nI (S.1 a0 j)))).slots.size : Int); rw [arrV_size]; omega)
    (by rw [nn dp (by omega), nn n (by omega)]; show ¬ _ > ((arrV (eI E) n1 (fun j => .int (nI (S.1 a j)))).slots.size : Int); rw [arrV_size]; omega)
    (fun vm₁ _ i hi => by
      have e : (vp_cell (eI E) (n0, .inl (fun i => nI (S.1 a0 i)))).slots.getD ((nI sp).toNatClampNeg + i) .null = .int (nI (S.1 a0 ((nI sp).toNatClampNeg + i))) := by
        show (arrV (eI E) n0 (fun j => .int (nI (S.1 a0 j)))).slots.getD _ _ = _
        rw [Array.getD_eq_getD_getElem?, arrV_read _ _ (by rw [ks]; rw [kn] at hi; omega)]
        rfl
      refine ⟨?_, ?_⟩
      · rw [e]
        rfl
      · rw [e]
        exact trivial)
    (g := F0 m pc ls (.int (nI n) :: .int (nI dp) :: .ref a :: .int (nI sp) :: .ref a0 :: [])) rfl (by rw [hml]; exact hll.1.1) (rest := []) rfl (by rw [hb]; exact d) (by omega) (by
      have hq : 2 * 0 + 0 + (nativeFrameWords "java/lang/System" "arraycopy" 5 + 11) ≤ 40 := by decide
      show 2 * 0 + 0 + (nativeFrameWords "java/lang/System" "arraycopy" 5 + 11) ≤ R.locals
      omega)
  have e1 : copied (vp_cell (eI E) (n0, .inl (fun i => nI (S.1 a0 i)))) (vp_cell (eI E) (n1, .inl (fun i => nI (S.1 a i)))) (nI sp) (nI dp) (nI n) = vp_cell (eI E) (n1, .inl (va_cpy (fun i => nI (S.1 a0 i)) (fun i => nI (S.1 a i)) (nI sp).toNatClampNeg (nI dp).toNatClampNeg (nI n).toNatClampNeg)) := va_copied (fun z => .int z) (eI E) (eI E) (n0 := n0) (n1 := n1) (sp := (nI sp).toNatClampNeg) (dp := (nI dp).toNatClampNeg) (n := (nI n).toNatClampNeg) (fun i => nI (S.1 a0 i)) (fun i => nI (S.1 a i)) (by rw [ks, kn]; exact h4)
  rw [ks, kd, kn, cpy_nI] at e1
  rw [e1] at X' step
  have hl2 : a < H.size := (Array.getElem?_eq_some_iff.mp hc1).1
  have oq : ∀ (x : Cell) (q : Nat), q ≠ a → (H.setIfInBounds a x)[q]? = H[q]? := fun x q hq => by simp [Array.getElem?_setIfInBounds, Ne.symm hq]
  obtain ⟨t, a1, b1⟩ := kk _ _ ls (hP.put (oq _) (fun q hq => by unfold wl; rw [arS_1n hq, arS_2]) (fun e' he => by
      rw [wl_arr hG1] at he
      cases he
      rw [arS_1]
      show (H.setIfInBounds a _)[a]? = some _
      simp [Array.getElem?_setIfInBounds, hl2]
      try rfl)) (by simp; exact hz) ⟨by simp; exact hS.1, fun q g1 g2 => by
      rw [oq _ q (fun e => g2 (by rw [e]; exact hA a (fun h => by rw [hG1] at h; cases h)))]
      exact hS.2.1 q g1 g2, fun q hq => by
      rcases List.mem_append.mp hq with h | h
      · exact hS.2.2 q h
      · obtain ⟨z, -, hz⟩ := List.mem_map.mp h
        rw [← hz]
        exact hA a (fun h => by rw [hG1] at h; cases h)⟩ hll _ (show ((T.setVm vm').setCell a _).heap = H.setIfInBounds a _ by rw [← hT]; rfl) X'
  exact ⟨t, step t a1, b1⟩
end RY
end
section
def Cn (E : Ev) (own : String) (cc : ByteArray) (nL k c1 c2 : Nat) (mn : String) (A : Nat → Prop) (J : Gm → Nat → Nat → Nat → Jt) : Prop :=
  ∃ (p : Program) (e : Env) (R : Room) (s : State) (m : MethodId) (args : Array Value) (below : List Frame) (meth : Method) (c : Code) (Q : State → Prop),
    (p.tables.exec = Jvm.exec ∧ c.code = cc ∧ c.maxLocals = nL ∧ s.vm.findClass own = some m.cls ∧ (∀ w ∈ eW E, w.before args s = true)) ∧ va_K (eD E) (eC E) (eT E) s ∧ (∀ w ∈ eN E, va_Nw w s) ∧ (k ≤ R.frames ∧ 40 * k ≤ R.locals ∧ c1 ≤ R.cells ∧ c2 ≤ R.slots) ∧ eOK E ∧ (∀ q, s.heap.size ≤ q → A q) ∧ meth.name = mn ∧
    J = fun G sz n1 n2 => jw p e R s m args below meth c E G A sz n1 n2 nL Q
section MK
variable {E : Ev} {own : String} {cc : ByteArray} {nL k c1 c2 : Nat} {mn : String} {A : Nat → Prop} {J : Gm → Nat → Nat → Nat → Jt} {G : Gm} {S : Sg} {sz n1 n2 pc : Nat} {L : List (Option Value)} {st : List Value}
theorem Cn.cx (X : Cn E own cc nL k c1 c2 mn A J) (hG : ∀ q, dG G q → A q) (h1 : n1 ≤ c1) (h2 : n2 ≤ c2) : Cx E G own cc nL k (J G sz n1 n2) := by
  obtain ⟨p, e, R, s, m, args, below, meth, c, Q, hF, hK, hN, hR, hE, hA, hmn, rfl⟩ := X
  exact ⟨p, e, R, s, m, args, below, meth, c, A, sz, n1, n2, Q, hF, hK, hN, ⟨hR.1, hR.2.1, Nat.le_trans h1 hR.2.2.1, Nat.le_trans h2 hR.2.2.2⟩, hE, hG, rfl⟩
theorem wP.lt {H : Heap} (hP : wP E G S H) {a : Nat} (h : G a ≠ none) : a < H.size := by
  cases hg : G a with
  | none => exact absurd hg h
  | some kd =>
    rcases kd with n | o | e
    · exact (hP a _ (wl_arr hg)).lt
    · exact (hP a _ (wl_obj (ci := o.1) (F := o.2) hg)).lt
    · exact (hP a _ (wl_fix hg)).lt
theorem wP.grow {H H1 : Heap} {kd : Kd} {S1 : Sg} (hP : wP E G S H) (o1 : ∀ q, q < H.size → H1[q]? = H[q]?) (hs : ∀ a, a ≠ H.size → S1.1 a = S.1 a ∧ S1.2 a = S.2 a) (he : ∀ e, wl (eI E) (va_up G H.size (some kd)) S1 H.size = some e → va_at (eD E) (eC E) (H.size, e) H1) : wP E (va_up G H.size (some kd)) S1 H1 := by
  intro a e h
  by_cases ha : a = H.size
  · subst ha
    exact he e h
  · have e1 : wl (eI E) (va_up G H.size (some kd)) S1 a = wl (eI E) G S a := by
      unfold wl
      rw [va_up_n ha, (hs a ha).1, (hs a ha).2]
    rw [e1] at h
    exact (hP a e h).kept (o1 a (hP a e h).lt)
def lkN (W : List Cond) (cl : List vw_C) (own : String) (idx ci N : Nat) (fs : List Value) : Prop := ∃ (C : String) (T : u_T) (ty : Nat → FieldType), cl[ci]? = some (C, T, N) ∧ (∀ w ∈ u_ws C T N, w ∈ W) ∧ (∀ j, j < N → parseFieldDescriptor (T j).2.2.1 = some (ty j)) ∧ Cond.classLink own idx C ∈ W ∧ Cond.instantiable C N ∈ W ∧ Cond.initialized C ∈ W ∧ ∀ j, j < N → defaultValue (ty j) = vp_V fs j
theorem cn_new (X : Cn E own cc nL k c1 c2 mn A J) {idx ci N : Nat} {F : Int32 → List Value} {x0 : Int32} (hl : lkN (eW E) (eC E) own idx ci N (F x0)) (h1 : n1 + 1 ≤ c1) (h2 : n2 + N ≤ c2) (d : decode cc pc = .ok (.new idx, 3))
    (kk : J (va_up G sz (some (kObj ci F))) (sz + 1) (n1 + 1) (n2 + N) (fdS S sz x0) (pc + 3) L (.ref sz :: st)) : J G sz n1 n2 S pc L st := by
  obtain ⟨p, e, R, s, m, args, below, meth, c, Q, ⟨hx, hb, hml, hown, hts⟩, hK, hN, hR, hE, hA, hmn, rfl⟩ := X
  obtain ⟨C, T, ty, hc, hin, hty, w1, w2, w3, hfs⟩ := hl
  intro H locs ls hP hz hS hll
  subst hz
  have hKn := hK.1 ci _ hc
  refine W.newcK hx hb hown (hts _ w1) (hts _ w2) (hts _ w3) rfl d (Nat.le_trans h1 hR.2.2.1) (Nat.le_trans h2 hR.2.2.2) hKn.2.1 rfl fun H1 kC hkC e1 z1 o1 => ?_
  refine kk H1 locs ls (hP.grow o1 (fun a ha => ⟨rfl, fdS_2n ha⟩) (fun e' he => ?_)) z1 ⟨Nat.le_trans hS.1 (by omega), fun x g1 g2 => (o1 x (Nat.lt_of_lt_of_le g1 hS.1)).trans (hS.2.1 x g1 g2), hS.2.2⟩ hll
  rw [wl_obj (va_up_s _ _ _)] at he
  cases he
  rw [fdS_2]
  exact ⟨_, hc, (u_born ty hts hin hKn hkC e1 hty).to hfs⟩
theorem cn_newa (X : Cn E own cc nL k c1 c2 mn A J) {n : Nat} (hw : Cond.arrayClass (newarray.typeOf .int) ∈ eW E) (hn : n ≤ 100000) (h1 : n1 + 1 ≤ c1) (h2 : n2 + n ≤ c2) (d : decode cc pc = .ok (.newarray .int, 2))
    (kk : J (va_up G sz (some (kArr n))) (sz + 1) (n1 + 1) (n2 + n) (arS S sz (fun _ => 0)) (pc + 2) L (.ref sz :: st)) : J G sz n1 n2 S pc L (.int (nI n) :: st) := by
  obtain ⟨p, e, R, s, m, args, below, meth, c, Q, ⟨hx, hb, hml, hown, hts⟩, hK, hN, hR, hE, hA, hmn, rfl⟩ := X
  intro H locs ls hP hz hS hll
  subst hz
  refine va_newaK hx hb (hts _ hw) rfl d rfl (nI_pos (by omega)) (nI_clamp (by omega)) (by show n * 4 ≤ _; omega) (Nat.le_trans h1 hR.2.2.1) (Nat.le_trans h2 hR.2.2.2) rfl fun H1 cA e1 z1 o1 hAr hNm => ?_
  have hcA : cA = eI E := by
    have h3 : s.vm.findClass ("[" ++ FieldType.int.toString) = some (eI E) := (hK.2 0 _ hE.2.2).2
    exact Option.some.inj (hNm.symm.trans h3)
  subst hcA
  refine kk H1 locs ls (hP.grow o1 (fun a ha => ⟨arS_1n ha, rfl⟩) (fun e' he => ?_)) z1 ⟨Nat.le_trans hS.1 (by omega), fun x g1 g2 => (o1 x (Nat.lt_of_lt_of_le g1 hS.1)).trans (hS.2.1 x g1 g2), hS.2.2⟩ hll
  rw [wl_arr (va_up_s _ _ _)] at he
  cases he
  rw [arS_1]
  exact e1
def lkG (W : List Cond) (cl : List vw_C) (own : String) (idx ci kf : Nat) : Prop := ∃ (T : u_T) (N : Nat) (ty : Nat → FieldType), cl[ci]? = some (own, T, N) ∧ kf < N ∧ (∀ w ∈ u_ws own T N, w ∈ W) ∧ Cond.fieldLink own idx (T kf).1 (T kf).2.1 (T kf).2.2.1 ∈ W ∧ (∀ j, j < N → parseFieldDescriptor (T j).2.2.1 = some (ty j)) ∧ (∀ a, a < N → ∀ b, b < N → a ≠ b → (T a).2.1 ≠ (T b).2.1) ∧ (T kf).2.2.2 = true ∧ (T kf).1 = own ∧ ∀ q : Nat, narrow (ty kf) (.ref q) = .ref q ∧ fits (ty kf) (.ref q) = true
theorem wP.kind {H H1 : Heap} {kd : Kd} {a : Nat} (hP : wP E G S H) (o1 : ∀ q, q ≠ a → H1[q]? = H[q]?) (he : ∀ e, wl (eI E) (va_up G a (some kd)) S a = some e → va_at (eD E) (eC E) (a, e) H1) : wP E (va_up G a (some kd)) S H1 := by
  intro b e h
  by_cases hb : b = a
  · subst hb
    exact he e h
  · have e1 : wl (eI E) (va_up G a (some kd)) S b = wl (eI E) G S b := by
      unfold wl
      rw [va_up_n hb]
    rw [e1] at h
    exact (hP b e h).kept (o1 b hb)
theorem cn_putF (X : Cn E own cc nL k c1 c2 "<init>" A J) {idx ci kf a q : Nat} {F F' : Int32 → List Value} (hf : lkG (eW E) (eC E) own idx ci kf) (d : decode cc pc = .ok (.putfield idx, 3)) (hG : G a = some (kObj ci F)) (hAa : A a) (hs : ∀ v, (F v).set kf (.ref q) = F' v) (hl : ∀ v, kf < (F v).length)
    (kk : J (va_up G a (some (kObj ci F'))) sz n1 n2 S (pc + 3) L st) : J G sz n1 n2 S pc L (.ref q :: .ref a :: st) := by
  obtain ⟨p, e, R, s, m, args, below, meth, c, Q, ⟨hx, hb, hml, hown, hts⟩, hK, hN, hR, hE, hA, hmn, rfl⟩ := X
  obtain ⟨T, N, ty, hc, hk, hin, hlk, hty, hnm, hfin, hdecl, hfit⟩ := hf
  intro H locs ls hP hz hS hll
  have hap := va_apart (own := own) hts hin ty hty hnm hK hc
  obtain ⟨r, g1, cell, q1, q2, q3, q4⟩ := hP a _ (wl_obj hG)
  have hr : r = (own, T, N) := Option.some.inj (g1.symm.trans hc)
  subst hr
  obtain ⟨hSl, hfc, kC, hkC, hkind⟩ := hK.1 ci _ hc
  obtain ⟨cf, kf', fi, f, hi, hsl⟩ := hSl kf hk
  have hlay := hts _ (hin _ (u_in_lay hk))
  unfold u_lay at hlay
  rw [if_pos hfin] at hlay
  have hst := (u_facts hfc hkC (u_lays hts hin hk) hi).1
  have hcf : m.cls = cf := by
    obtain ⟨_, _, c', _, _, _, -, -, hf', -, -, -, hown2, -⟩ := Cond.laysFinal_spec hlay
    have e1 : c' = cf := by have := hi.symm.trans hf'; simp at this; exact this.1.symm
    rw [hdecl] at hown2
    rw [← e1]; exact Option.some.inj (hown.symm.trans hown2)
  have h6 := u_fits hfc hkC hkind (Or.inr hlay) hi (hty kf hk) (hfit q).1 (hfit q).2
  refine W.putFinK hx hb hown (hts _ hlk) hi hst hcf hmn (by rw [q2]; exact h6) q1 q3 (by rw [hsl]; exact k2_hasslot (q4 kf hk)) rfl rfl d fun H' e1 e2 e3 => ?_
  rw [hsl] at e1 ⊢
  refine kk H' _ ls (hP.kind e3 (fun e' he => ?_)) (e2.trans hz) (hS.put e2 e3 hAa) hll
  rw [wl_obj (va_up_s _ _ _)] at he
  cases he
  exact ⟨_, hc, t_OB.to (V := updV (vp_V (F (S.2 a))) kf (.ref q)) ⟨_, e1, q2, q3, t_set q4 hap hk _⟩ (fun j _ => by rw [vp_updV_set (hl _), hs])⟩
theorem cn_newq (X : Cn E own cc nL k c1 c2 mn A J) {idx n : Nat} {C : String} {cT : ClassId} (hw : Cond.classLink own idx C ∈ eW E) (hv : Cond.arrayOver (.object C) ∈ eW E) (hT : (eT E)[1]? = some (cT, .object C)) (hn : n ≤ 100000) (h1 : n1 + 1 ≤ c1) (h2 : n2 + n ≤ c2) (d : decode cc pc = .ok (.anewarray idx, 3))
    (kk : J (va_up G sz (some (kFix (.inl (cT, n, .inr (.inr (.inr (.inr (fun _ => none))))))))) (sz + 1) (n1 + 1) (n2 + n) S (pc + 3) L (.ref sz :: st)) : J G sz n1 n2 S pc L (.int (nI n) :: st) := by
  obtain ⟨p, e, R, s, m, args, below, meth, c, Q, ⟨hx, hb, hml, hown, hts⟩, hK, hN, hR, hE, hA, hmn, rfl⟩ := X
  intro H locs ls hP hz hS hll
  subst hz
  have kn : (nI n).toNatClampNeg = n := nI_clamp (by omega)
  refine W.anew hx hb hown (hts _ hw) (hts _ hv) rfl d rfl (nI_pos (by omega)) (by rw [kn]; omega) (Nat.le_trans h1 hR.2.2.1) (by rw [kn]; exact Nat.le_trans h2 hR.2.2.2) fun cA kA comp f1 f2 f3 f4 => ?_
  rw [kn]
  obtain ⟨kB, compB, g1, g2, g3, g4⟩ := (hK.2 1 _ hT).2
  have hcA : cA = cT := Option.some.inj (f1.symm.trans g4)
  subst hcA
  refine kk _ locs ls (hP.grow (fun q hq => by rw [Array.getElem?_push, if_neg (Nat.ne_of_lt hq)]) (fun a ha => ⟨rfl, rfl⟩) (fun e' he => ?_)) (by rw [Array.size_push]) ⟨Nat.le_trans hS.1 (by rw [Array.size_push]; omega), fun x g1 g2 => by rw [Array.getElem?_push, if_neg (Nat.ne_of_lt (Nat.lt_of_lt_of_le g1 hS.1))]; exact hS.2.1 x g1 g2, hS.2.2⟩ hll
  rw [wl_fix (va_up_s _ _ _)] at he
  cases he
  show (H.push _)[H.size]? = some (vp_cell _ _)
  rw [Array.getElem?_push_size, vp_cell_q, ← arrV_new]
  rfl
theorem cn_astq (X : Cn E own cc nL k c1 c2 mn A J) {a v ci n j : Nat} {C : String} {T : u_T} {N : Nat} {F : Int32 → List Value} {f : Nat → Option Nat} {cT : ClassId} (hT : (eT E)[1]? = some (cT, .object C)) (hc : (eC E)[ci]? = some (C, T, N)) (d : decode cc pc = .ok (.aastore, 1)) (hG : G a = some (kFix (.inl (cT, n, .inr (.inr (.inr (.inr f))))))) (hv : G v = some (kObj ci F)) (hAa : A a) (hj : j < n) (hn : n < 2 ^ 31)
    (kk : J (va_up G a (some (kFix (.inl (cT, n, .inr (.inr (.inr (.inr (va_up f j (some v)))))))))) sz n1 n2 S (pc + 1) L st) : J G sz n1 n2 S pc L (.ref v :: .int (nI j) :: .ref a :: st) := by
  obtain ⟨p, e, R, s, m, args, below, meth, c, Q, ⟨hx, hb, hml, hown, hts⟩, hK, hN, hR, hE, hA, hmn, rfl⟩ := X
  intro H locs ls hP hz hS hll
  have hca := hP a _ (wl_fix hG)
  obtain ⟨r', hr', cellV, g1, g2, g3, -⟩ := hP v _ (wl_obj hv)
  have hcls := (hK.1 ci _ hc).2
  obtain ⟨kA, comp, k1, k2, k3, -⟩ := (hK.2 1 _ hT).2
  have hcomp : comp = (eD E).1 ci := Option.some.inj (k3.symm.trans hcls.1)
  subst hcomp
  obtain ⟨kC, hkC, -⟩ := hcls.2
  have kj : (nI j).toNatClampNeg = j := nI_clamp (by omega)
  refine W.aast hx hb hca (fun q h => by cases h) (fun h => by cases h) k1 k2 rfl hkC ⟨nI_pos (by omega), by show _ < (arrV _ _ _).slots.size; rw [arrV_size, kj]; exact hj⟩ g1 (fun q h => by rw [g3] at h; cases h) (by rw [g2]; exact hkC) (by rw [g2]; exact va_assign hcls) rfl rfl d fun H1 e z oq => ?_
  refine kk H1 _ ls (hP.kind oq (fun e' he => ?_)) (z.trans hz) (hS.put z oq hAa) hll
  rw [wl_fix (va_up_s _ _ _)] at he
  cases he
  show H1[a]? = some (vp_cell _ _)
  rw [e, kj]
  rw [vp_cell_q, vp_cell_q, arrV_store]
  congr 2
  funext q
  by_cases hq : q = j
  · subst hq
    simp [updV, va_up, va_rf]
  · simp [updV, va_up, hq]
theorem r_objInit {J : Jt} (X : Cx E G own cc nL k J) {idx a : Nat} (w1 : Cond.methodLink own idx Lib.objectInit ∈ eW E) (w2 : Cond.instanceMethod Lib.objectInit ∈ eW E) (w3 : Cond.code Lib.objectInit ⟨#[0xb1]⟩ 1 none ∈ eW E) (hk : 1 ≤ k) (hst : st = []) (d : decode cc pc = .ok (.invokespecial idx, 3)) (kk : J S (pc + 3) L st) : J S pc L (.ref a :: st) := by
  obtain ⟨p, e, R, s, m, args, below, meth, c, A, sz, n1, n2, Q, ⟨hx, hb, hml, hown, hts⟩, hK, hN, hR, hE, hA, rfl⟩ := X
  intro H locs ls hP hz hS hll
  subst hst
  refine W.objInit hx hb hown (hts _ w1) (hts _ w2) (hts _ w3) rfl (hll.1.1.trans hml.symm) rfl d (by omega) (by show 2 * 0 + 0 + 12 ≤ R.locals; omega) ?_
  exact kk H locs ls hP hz hS hll
def CN (E : Ev) (G : Gm) (y : MethodName) (cc : ByteArray) (nL k mc ms : Nat) (av : List Value) (S : Sg) (sz : Nat) (G' : Gm) (S' : Sg) : Prop :=
  Met (eL E) y (Cond.code y cc nL none :: eW E) { frames := k, cells := mc, slots := ms, locals := 40 * k } (va_Pc av (fun U => wPc E G S U ∧ U.heap.size = sz)) (fun _ st oc t => (oc = .returned none ∧ wP E G' S' t.heap ∧ t.heap.size = sz + mc) ∧ va_F (fun q => dG G q ∨ sz ≤ q) st t) mc ms (fun q => dG G q ∨ sz ≤ q)
theorem mk_n {y : MethodName} {mc ms : Nat} {av : List Value} {G' : Gm} {S' : Sg} (hy : plainName y.cls = true) (hyn : y.name = "<init>") (hE : eOK E) (hav : ∀ v ∈ av, v.category = 1) (hlen : av.length ≤ nL)
    (body : ∀ J : Gm → Nat → Nat → Nat → Jt, Cn E y.cls cc nL k mc ms "<init>" (fun q => dG G q ∨ sz ≤ q) J → (∀ (pc : Nat) (L : List (Option Value)), decode cc pc = .ok (.return_, 1) → J G' (sz + mc) mc ms S' pc L []) → J G sz 0 0 S 0 (av.map some ++ List.replicate (nL - av.length) none) []) : CN E G y cc nL k mc ms av S sz G' S' := by
  refine Met.ofW (cc := cc) (maxL := nL) (ret := none) hy rfl ?_
  intro p e s m args below meth c s₁ B hml hv
  obtain ⟨rfl, ⟨hP, hK, hN⟩, hsz⟩ := hv
  have hx := B.exec
  have hb := B.bytes
  have hr := B.returns
  have hts := atoms_spec (ws := Cond.code y cc nL none :: eW E) B.pre
  have hown : s.vm.findClass y.cls = some m.cls := findClass_of_methodNamed B.named
  have hlocks := B.notSynchronized
  have hin : meth.name = "<init>" := by rw [← hyn]; exact (name_of_methodNamed B.named B.method).1
  rw [lg_entry_eq]
  subst hsz
  refine body (fun G sz n1 n2 => jw p e _ s m av.toArray below meth c E G (fun q => dG _ q ∨ s.heap.size ≤ q) sz n1 n2 nL _) ⟨p, e, _, s, m, av.toArray, below, meth, c, _, ⟨hx, hb, hml, hown, fun w h => hts w (List.mem_cons_of_mem _ h)⟩, hK, hN, ⟨Nat.le_refl _, Nat.le_refl _, Nat.le_refl _, Nat.le_refl _⟩, hE, fun _ h => Or.inr h, hin, rfl⟩ ?_ s.heap [] _ hP rfl va_S.rf (lo_entry hav hlen)
  intro pc L d H locs ls hP1 hz1 hS1 hl1
  exact W.vret hx hb hr (fun t ht hW => ⟨⟨rfl, by rw [ht]; exact hP1, by rw [ht]; exact hz1⟩, hS1.F ht⟩) hS1.2.2 d
def lkI (W : List Cond) (own : String) (idx : Nat) (y : MethodName) (c2 : ByteArray) (nL2 : Nat) (n : Nat) : Prop :=
  Cond.code y c2 nL2 none ∈ W ∧ Cond.methodLink own idx y ∈ W ∧ Cond.instanceMethod y ∈ W ∧ Cond.initialized y.cls ∈ W ∧ y.name = "<init>" ∧ (y.cls ≠ "java/lang/invoke/MethodHandle" ∧ y.cls ≠ "java/lang/invoke/VarHandle" ∧ (parseMethodDescriptor y.desc).map (fun d => d.parameters.length) = some n) ∧ nL2 ≤ 21
theorem cn_call (X : Cn E own cc nL k c1 c2 mn A J) {idx nL2 n k2 b mc ms : Nat} {y : MethodName} {cb : ByteArray} {As rest : List Value} {G' : Gm} {S' : Sg} (hl : lkI (eW E) own idx y cb nL2 n) (hM : CN E G y cb nL2 k2 mc ms (.ref b :: As) S sz G' S') (hAG : ∀ q, dG G q → A q) (hAz : ∀ q, sz ≤ q → A q) (hk : k2 + 1 ≤ k) (hn : As.length = n) (h1 : n1 + mc ≤ c1) (h2 : n2 + ms ≤ c2) (hw : (rest.map fun v => v.category).sum ≤ 8) (d : decode cc pc = .ok (.invokespecial idx, 3)) (hst : st = As.reverse ++ .ref b :: rest)
    (kk : J G' (sz + mc) (n1 + mc) (n2 + ms) S' (pc + 3) L rest) : J G sz n1 n2 S pc L st := by
  obtain ⟨p, e, R, s, m, args, below, meth, c, Q, ⟨hx, hb, hml, hown, hts⟩, hK, hN, hR, hE, hA, hmn, rfl⟩ := X
  obtain ⟨w1, w2, w3, w4, w7, w5, w6⟩ := hl
  intro H locs ls hP hz hS hll
  subst hst
  have hrun := va_runI (p := p) (l := eL E) (e := e) (R := R) (below := below) (meth := meth) (locs := locs) (cells := n1) (slots := n2) (H := H) (g := F0 m pc ls (As.reverse ++ .ref b :: rest)) (cc := cc) (nL := nL) (Ts := eW E) (own := own) (b := b) (As := As) (rest := rest) ⟨hx, hb, hml, hown, hts⟩ hM ⟨callB_of n hts (gd_in hE w1) rfl rfl rfl (hts _ w4) (hts _ w2) w5 ⟨by show k2 + 1 ≤ R.frames; omega, by show 8 + (nL2 + 11) + 40 * k2 ≤ R.locals; omega⟩, w7, hts _ w3⟩ ⟨fun a U g mk q => by
      obtain ⟨q0, ⟨qP, qK, qN⟩, qz⟩ := q
      exact ⟨q0, ⟨qP, va_K.moved (u := U) (U := U.calling g mk a) (Vm.Alike.refl U.vm) qK, fun w hw => nw_same (hE.2.1 w hw) (s := U) (U := U.calling g mk a) rfl (qN w hw)⟩, qz⟩, fun U hU hW => ⟨rfl, ⟨by rw [hU]; exact hP, va_K.moved hW.alike hK, fun w hw => nw_warm (hE.2.1 w hw) hW (hN w hw)⟩, by rw [hU]; exact hz⟩⟩ rfl hn hll.1.1 rfl (lv_room hw) d ⟨Nat.le_trans h1 hR.2.2.1, Nat.le_trans h2 hR.2.2.2⟩
  intro T hT X
  obtain ⟨v, st₀, t, T', Lc, h0, X', hL, e1, e2, ⟨⟨hv, hb1, hb2⟩, hzz, hkk⟩, sst⟩ := hrun T hT X
  cases hv
  rw [h0] at hzz hkk
  obtain ⟨t2, a1, b1⟩ := kk T'.heap (locs ++ Lc) ls (by rw [e1]; exact hb1) (by rw [e1]; exact hb2)
    ⟨Nat.le_trans hS.1 (by rw [e1]; exact hzz), fun q g1 g2 => by rw [e1, hkk q (Nat.lt_of_lt_of_le g1 hS.1) (fun z => g2 (z.elim (hAG q) (hAz q)))]; exact hS.2.1 q g1 g2, fun q hq => by
      rcases List.mem_append.mp hq with h | h
      · exact hS.2.2 q h
      · exact (hL q h).elim (hAG _) (hAz _)⟩ hll T' rfl X'
  exact ⟨t2, sst t2 a1, b1⟩
end MK
end
section
def wA : List Cond := lw_tbl.filter goodWord
theorem in_wA {w : Cond} (i : Nat) (h : tables_1[i]? = some w) (hg : goodWord w = true) : w ∈ wA := List.mem_filter.mpr ⟨List.mem_append_right _ (List.mem_of_getElem? h), hg⟩
theorem in_wS {w : Cond} (i : Nat) (h : (k2_sels lw_privs)[i]? = some w) (hg : goodWord w = true) : w ∈ wA := List.mem_filter.mpr ⟨List.mem_append_left _ (List.mem_of_getElem? h), hg⟩
def R_Poly : String := "TelescopeDesk$Poly"
def F_Poly : u_T := fun k => match k with
  | 0 => ("TelescopeDesk$Poly", "c", "[I", true)
  | _ => ("TelescopeDesk$Poly", "top", "I", false)
def t_Poly : Nat → FieldType := fun k => match k with
  | 0 => .array .int
  | _ => .int
theorem n_Poly : ∀ a, a < 2 → ∀ b, b < 2 → a ≠ b → (F_Poly a).2.1 ≠ (F_Poly b).2.1 := by decide +kernel
theorem tk_Poly : ∀ k, k < 2 → parseFieldDescriptor (F_Poly k).2.2.1 = some (t_Poly k) := by decide +kernel
def R_Term : String := "TelescopeDesk$Term"
def F_Term : u_T := fun k => match k with
  | 0 => ("TelescopeDesk$Term", "n", "LTelescopeDesk$Poly;", true)
  | 1 => ("TelescopeDesk$Term", "e", "[I", true)
  | _ => ("TelescopeDesk$Term", "z", "I", false)
def t_Term : Nat → FieldType := fun k => match k with
  | 0 => .object "TelescopeDesk$Poly"
  | 1 => .array .int
  | _ => .int
theorem n_Term : ∀ a, a < 3 → ∀ b, b < 3 → a ≠ b → (F_Term a).2.1 ≠ (F_Term b).2.1 := by decide +kernel
theorem tk_Term : ∀ k, k < 3 → parseFieldDescriptor (F_Term k).2.2.1 = some (t_Term k) := by decide +kernel
def R_Comb : String := "TelescopeDesk$Combiner"
def F_Comb : u_T := fun k => match k with
  | 0 => ("TelescopeDesk$Combiner", "next", "LTelescopeDesk$Term;", true)
  | _ => ("TelescopeDesk$Combiner", "widened", "LTelescopeDesk$Poly;", true)
def t_Comb : Nat → FieldType := fun k => match k with
  | 0 => .object "TelescopeDesk$Term"
  | _ => .object "TelescopeDesk$Poly"
theorem n_Comb : ∀ a, a < 2 → ∀ b, b < 2 → a ≠ b → (F_Comb a).2.1 ≠ (F_Comb b).2.1 := by decide +kernel
theorem tk_Comb : ∀ k, k < 2 → parseFieldDescriptor (F_Comb k).2.2.1 = some (t_Comb k) := by decide +kernel
def R_Split : String := "TelescopeDesk$Splitter"
def F_Split : u_T := fun k => match k with
  | 0 => ("TelescopeDesk$Splitter", "series", "[I", true)
  | 1 => ("TelescopeDesk$Splitter", "parts", "[I", true)
  | 2 => ("TelescopeDesk$Splitter", "rest", "LTelescopeDesk$Poly;", true)
  | 3 => ("TelescopeDesk$Splitter", "step", "LTelescopeDesk$Poly;", true)
  | _ => ("TelescopeDesk$Splitter", "whole", "LTelescopeDesk$Poly;", true)
def t_Split : Nat → FieldType := fun k => match k with
  | 0 => .array .int
  | 1 => .array .int
  | 2 => .object "TelescopeDesk$Poly"
  | 3 => .object "TelescopeDesk$Poly"
  | _ => .object "TelescopeDesk$Poly"
theorem n_Split : ∀ a, a < 5 → ∀ b, b < 5 → a ≠ b → (F_Split a).2.1 ≠ (F_Split b).2.1 := by decide +kernel
theorem tk_Split : ∀ k, k < 5 → parseFieldDescriptor (F_Split k).2.2.1 = some (t_Split k) := by decide +kernel
def R_Desk : String := "TelescopeDesk"
def F_Desk : u_T := fun k => match k with
  | 0 => ("TelescopeDesk", "slots", "[LTelescopeDesk$Term;", true)
  | 1 => ("TelescopeDesk", "result", "LTelescopeDesk$Term;", true)
  | 2 => ("TelescopeDesk", "remainder", "LTelescopeDesk$Term;", true)
  | 3 => ("TelescopeDesk", "combiner", "LTelescopeDesk$Combiner;", true)
  | _ => ("TelescopeDesk", "splitter", "LTelescopeDesk$Splitter;", true)
def t_Desk : Nat → FieldType := fun k => match k with
  | 0 => .array (.object "TelescopeDesk$Term")
  | 1 => .object "TelescopeDesk$Term"
  | 2 => .object "TelescopeDesk$Term"
  | 3 => .object "TelescopeDesk$Combiner"
  | _ => .object "TelescopeDesk$Splitter"
theorem n_Desk : ∀ a, a < 5 → ∀ b, b < 5 → a ≠ b → (F_Desk a).2.1 ≠ (F_Desk b).2.1 := by decide +kernel
theorem tk_Desk : ∀ k, k < 5 → parseFieldDescriptor (F_Desk k).2.2.1 = some (t_Desk k) := by decide +kernel
def R_Model : String := "TelescopeDeskModel"
def F_Model : u_T := fun k => match k with
  | 0 => ("TelescopeDeskModel", "coefficient", "[I", true)
  | 1 => ("TelescopeDeskModel", "exponent", "[I", true)
  | 2 => ("TelescopeDeskModel", "ratio", "[I", true)
  | 3 => ("TelescopeDeskModel", "poly", "[I", true)
  | 4 => ("TelescopeDeskModel", "below", "[I", true)
  | 5 => ("TelescopeDeskModel", "z", "I", false)
  | 6 => ("TelescopeDeskModel", "weights", "[I", true)
  | 7 => ("TelescopeDeskModel", "roots", "[I", true)
  | 8 => ("TelescopeDeskModel", "left", "[I", true)
  | _ => ("TelescopeDeskModel", "values", "[I", true)
def t_Model : Nat → FieldType := fun k => match k with
  | 0 => .array .int
  | 1 => .array .int
  | 2 => .array .int
  | 3 => .array .int
  | 4 => .array .int
  | 5 => .int
  | 6 => .array .int
  | 7 => .array .int
  | 8 => .array .int
  | _ => .array .int
theorem n_Model : ∀ a, a < 10 → ∀ b, b < 10 → a ≠ b → (F_Model a).2.1 ≠ (F_Model b).2.1 := by decide +kernel
theorem tk_Model : ∀ k, k < 10 → parseFieldDescriptor (F_Model k).2.2.1 = some (t_Model k) := by decide +kernel
def clA : List vw_C := [(R_Poly, F_Poly, 2), (R_Term, F_Term, 3), (R_Comb, F_Comb, 2), (R_Split, F_Split, 5), (R_Desk, F_Desk, 5), (R_Model, F_Model, 10)]
def y_Desk_init : MethodName := ⟨"TelescopeDesk", "<init>", "()V"⟩
abbrev b_Desk_init : ByteArray := prog_1_method_1_code
abbrev y_Obj_init : MethodName := Lib.objectInit
abbrev b_Obj_init : ByteArray := ⟨#[0xb1]⟩
def y_Term_init : MethodName := ⟨"TelescopeDesk$Term", "<init>", "(I)V"⟩
abbrev b_Term_init : ByteArray := prog_6_method_1_code
def y_Poly_init : MethodName := ⟨"TelescopeDesk$Poly", "<init>", "(I)V"⟩
abbrev b_Poly_init : ByteArray := prog_3_method_1_code
def y_Comb_init : MethodName := ⟨"TelescopeDesk$Combiner", "<init>", "()V"⟩
abbrev b_Comb_init : ByteArray := prog_2_method_1_code
def y_Split_init : MethodName := ⟨"TelescopeDesk$Splitter", "<init>", "()V"⟩
abbrev b_Split_init : ByteArray := prog_5_method_1_code
def y_Desk_constant : MethodName := ⟨"TelescopeDesk", "constant", "(II)I"⟩
abbrev b_Desk_constant : ByteArray := prog_1_method_2_code
def y_Desk_isSlot : MethodName := ⟨"TelescopeDesk", "isSlot", "(I)Z"⟩
abbrev b_Desk_isSlot : ByteArray := prog_1_method_21_code
def y_Desk_isResidue : MethodName := ⟨"TelescopeDesk", "isResidue", "(I)Z"⟩
abbrev b_Desk_isResidue : ByteArray := prog_1_method_22_code
def y_Term_clear : MethodName := ⟨"TelescopeDesk$Term", "clear", "()V"⟩
abbrev b_Term_clear : ByteArray := prog_6_method_2_code
def y_Poly_clear : MethodName := ⟨"TelescopeDesk$Poly", "clear", "()V"⟩
abbrev b_Poly_clear : ByteArray := prog_3_method_2_code
def y_Arr_fill : MethodName := ⟨"java/util/Arrays", "fill", "([II)V"⟩
abbrev b_Arr_fill : ByteArray := prog_11_method_103_code
def y_Poly_setLinear : MethodName := ⟨"TelescopeDesk$Poly", "setLinear", "(II)V"⟩
abbrev b_Poly_setLinear : ByteArray := prog_3_method_3_code
def y_Poly_trim : MethodName := ⟨"TelescopeDesk$Poly", "trim", "()V"⟩
abbrev b_Poly_trim : ByteArray := prog_3_method_5_code
def y_Desk_keepResult : MethodName := ⟨"TelescopeDesk", "keepResult", "(I)I"⟩
abbrev b_Desk_keepResult : ByteArray := prog_1_method_20_code
def y_Term_isOver : MethodName := ⟨"TelescopeDesk$Term", "isOver", "()Z"⟩
abbrev b_Term_isOver : ByteArray := prog_6_method_5_code
def y_Term_copyFrom : MethodName := ⟨"TelescopeDesk$Term", "copyFrom", "(LTelescopeDesk$Term;)V"⟩
abbrev b_Term_copyFrom : ByteArray := prog_6_method_3_code
def y_Poly_copyFrom : MethodName := ⟨"TelescopeDesk$Poly", "copyFrom", "(LTelescopeDesk$Poly;)V"⟩
abbrev b_Poly_copyFrom : ByteArray := prog_3_method_4_code
def y_Desk_linear : MethodName := ⟨"TelescopeDesk", "linear", "(III)I"⟩
abbrev b_Desk_linear : ByteArray := prog_1_method_3_code
def y_Desk_power : MethodName := ⟨"TelescopeDesk", "power", "(II)I"⟩
abbrev b_Desk_power : ByteArray := prog_1_method_4_code
def y_Desk_pole : MethodName := ⟨"TelescopeDesk", "pole", "(III)I"⟩
abbrev b_Desk_pole : ByteArray := prog_1_method_5_code
def y_Desk_isPole : MethodName := ⟨"TelescopeDesk", "isPole", "(I)Z"⟩
abbrev b_Desk_isPole : ByteArray := prog_1_method_23_code
def y_Desk_isPositiveExponent : MethodName := ⟨"TelescopeDesk", "isPositiveExponent", "(I)Z"⟩
abbrev b_Desk_isPositiveExponent : ByteArray := prog_1_method_24_code
def y_Desk_add : MethodName := ⟨"TelescopeDesk", "add", "(III)I"⟩
abbrev b_Desk_add : ByteArray := prog_1_method_6_code
def y_Term_isZero : MethodName := ⟨"TelescopeDesk$Term", "isZero", "()Z"⟩
abbrev b_Term_isZero : ByteArray := prog_6_method_4_code
def y_Comb_combine : MethodName := ⟨"TelescopeDesk$Combiner", "combine", "(LTelescopeDesk$Term;LTelescopeDesk$Term;LTelescopeDesk$Term;I)V"⟩
abbrev b_Comb_combine : ByteArray := prog_2_method_2_code
abbrev y_Math_max : MethodName := Lib.Math.max.name
abbrev b_Math_max : ByteArray := Lib.Math.max.code
def y_Comb_addWidened : MethodName := ⟨"TelescopeDesk$Combiner", "addWidened", "(LTelescopeDesk$Term;LTelescopeDesk$Term;I)V"⟩
abbrev b_Comb_addWidened : ByteArray := prog_2_method_4_code
def y_Poly_multiplyBy : MethodName := ⟨"TelescopeDesk$Poly", "multiplyBy", "(II)V"⟩
abbrev b_Poly_multiplyBy : ByteArray := prog_3_method_11_code
abbrev y_Math_min : MethodName := Lib.Math.min.name
abbrev b_Math_min : ByteArray := Lib.Math.min.code
def y_Poly_addScaled : MethodName := ⟨"TelescopeDesk$Poly", "addScaled", "(LTelescopeDesk$Poly;I)V"⟩
abbrev b_Poly_addScaled : ByteArray := prog_3_method_9_code
def y_Term_normalise : MethodName := ⟨"TelescopeDesk$Term", "normalise", "()V"⟩
abbrev b_Term_normalise : ByteArray := prog_6_method_9_code
def y_Res_of : MethodName := ⟨"TelescopeDesk$Residues", "of", "(I)I"⟩
abbrev b_Res_of : ByteArray := prog_4_method_2_code
def y_Math_floorMod : MethodName := ⟨"java/lang/Math", "floorMod", "(II)I"⟩
abbrev b_Math_floorMod : ByteArray := prog_9_method_50_code
def y_Poly_at : MethodName := ⟨"TelescopeDesk$Poly", "at", "(I)I"⟩
abbrev b_Poly_at : ByteArray := prog_3_method_7_code
def y_Poly_divideBy : MethodName := ⟨"TelescopeDesk$Poly", "divideBy", "(I)I"⟩
abbrev b_Poly_divideBy : ByteArray := prog_3_method_12_code
def y_Desk_multiply : MethodName := ⟨"TelescopeDesk", "multiply", "(III)I"⟩
abbrev b_Desk_multiply : ByteArray := prog_1_method_7_code
def y_Term_becomeProduct : MethodName := ⟨"TelescopeDesk$Term", "becomeProduct", "(LTelescopeDesk$Term;LTelescopeDesk$Term;)V"⟩
abbrev b_Term_becomeProduct : ByteArray := prog_6_method_10_code
def y_Poly_becomeProduct : MethodName := ⟨"TelescopeDesk$Poly", "becomeProduct", "(LTelescopeDesk$Poly;LTelescopeDesk$Poly;)V"⟩
abbrev b_Poly_becomeProduct : ByteArray := prog_3_method_10_code
def y_Desk_shift : MethodName := ⟨"TelescopeDesk", "shift", "(II)I"⟩
abbrev b_Desk_shift : ByteArray := prog_1_method_8_code
def y_Term_becomeNext : MethodName := ⟨"TelescopeDesk$Term", "becomeNext", "(LTelescopeDesk$Term;)V"⟩
abbrev b_Term_becomeNext : ByteArray := prog_6_method_11_code
def y_Poly_moveOn : MethodName := ⟨"TelescopeDesk$Poly", "moveOn", "()V"⟩
abbrev b_Poly_moveOn : ByteArray := prog_3_method_13_code
def y_Poly_scale : MethodName := ⟨"TelescopeDesk$Poly", "scale", "(I)V"⟩
abbrev b_Poly_scale : ByteArray := prog_3_method_8_code
def y_Desk_difference : MethodName := ⟨"TelescopeDesk", "difference", "(II)I"⟩
abbrev b_Desk_difference : ByteArray := prog_1_method_9_code
def y_Comb_subtractFromNext : MethodName := ⟨"TelescopeDesk$Combiner", "subtractFromNext", "(LTelescopeDesk$Term;LTelescopeDesk$Term;)V"⟩
abbrev b_Comb_subtractFromNext : ByteArray := prog_2_method_3_code
def y_Desk_telescope : MethodName := ⟨"TelescopeDesk", "telescope", "(III)I"⟩
abbrev b_Desk_telescope : ByteArray := prog_1_method_10_code
def y_Split_split : MethodName := ⟨"TelescopeDesk$Splitter", "split", "(LTelescopeDesk$Term;LTelescopeDesk$Term;LTelescopeDesk$Term;)V"⟩
abbrev b_Split_split : ByteArray := prog_5_method_3_code
def y_Split_splitPoles : MethodName := ⟨"TelescopeDesk$Splitter", "splitPoles", "(LTelescopeDesk$Term;LTelescopeDesk$Term;)V"⟩
abbrev b_Split_splitPoles : ByteArray := prog_5_method_7_code
def y_Res_invert : MethodName := ⟨"TelescopeDesk$Residues", "invert", "(I)I"⟩
abbrev b_Res_invert : ByteArray := prog_4_method_4_code
def y_Res_raise : MethodName := ⟨"TelescopeDesk$Residues", "raise", "(II)I"⟩
abbrev b_Res_raise : ByteArray := prog_4_method_3_code
def y_Split_expandAt : MethodName := ⟨"TelescopeDesk$Splitter", "expandAt", "(LTelescopeDesk$Term;I)V"⟩
abbrev b_Split_expandAt : ByteArray := prog_5_method_4_code
def y_Split_divideSeries : MethodName := ⟨"TelescopeDesk$Splitter", "divideSeries", "(I)V"⟩
abbrev b_Split_divideSeries : ByteArray := prog_5_method_5_code
def y_Split_expandedWeight : MethodName := ⟨"TelescopeDesk$Splitter", "expandedWeight", "(LTelescopeDesk$Term;II)I"⟩
abbrev b_Split_expandedWeight : ByteArray := prog_5_method_6_code
def y_Split_partIndex : MethodName := ⟨"TelescopeDesk$Splitter", "partIndex", "(II)I"⟩
abbrev b_Split_partIndex : ByteArray := prog_5_method_12_code
def y_Split_splitWhole : MethodName := ⟨"TelescopeDesk$Splitter", "splitWhole", "(LTelescopeDesk$Term;)V"⟩
abbrev b_Split_splitWhole : ByteArray := prog_5_method_8_code
def y_Split_setDifferenceOfPower : MethodName := ⟨"TelescopeDesk$Splitter", "setDifferenceOfPower", "(II)V"⟩
abbrev b_Split_setDifferenceOfPower : ByteArray := prog_5_method_9_code
def y_Split_gather : MethodName := ⟨"TelescopeDesk$Splitter", "gather", "(ILTelescopeDesk$Term;)V"⟩
abbrev b_Split_gather : ByteArray := prog_5_method_10_code
def y_Split_multiplyByPoles : MethodName := ⟨"TelescopeDesk$Splitter", "multiplyByPoles", "(LTelescopeDesk$Poly;[III)V"⟩
abbrev b_Split_multiplyByPoles : ByteArray := prog_5_method_11_code
def y_Desk_check : MethodName := ⟨"TelescopeDesk", "check", "(II)Z"⟩
abbrev b_Desk_check : ByteArray := prog_1_method_11_code
def y_Term_matches : MethodName := ⟨"TelescopeDesk$Term", "matches", "(LTelescopeDesk$Term;)Z"⟩
abbrev b_Term_matches : ByteArray := prog_6_method_6_code
def y_Poly_matches : MethodName := ⟨"TelescopeDesk$Poly", "matches", "(LTelescopeDesk$Poly;)Z"⟩
abbrev b_Poly_matches : ByteArray := prog_3_method_6_code
def y_Desk_same : MethodName := ⟨"TelescopeDesk", "same", "(II)Z"⟩
abbrev b_Desk_same : ByteArray := prog_1_method_12_code
def y_Desk_ratio : MethodName := ⟨"TelescopeDesk", "ratio", "(I)I"⟩
abbrev b_Desk_ratio : ByteArray := prog_1_method_13_code
def y_Desk_degree : MethodName := ⟨"TelescopeDesk", "degree", "(I)I"⟩
abbrev b_Desk_degree : ByteArray := prog_1_method_14_code
def y_Desk_coefficient : MethodName := ⟨"TelescopeDesk", "coefficient", "(II)I"⟩
abbrev b_Desk_coefficient : ByteArray := prog_1_method_15_code
def y_Desk_exponent : MethodName := ⟨"TelescopeDesk", "exponent", "(II)I"⟩
abbrev b_Desk_exponent : ByteArray := prog_1_method_16_code
def y_Desk_weight : MethodName := ⟨"TelescopeDesk", "weight", "(III)I"⟩
abbrev b_Desk_weight : ByteArray := prog_1_method_17_code
def y_Split_weightOf : MethodName := ⟨"TelescopeDesk$Splitter", "weightOf", "(LTelescopeDesk$Term;II)I"⟩
abbrev b_Split_weightOf : ByteArray := prog_5_method_2_code
def y_Desk_value : MethodName := ⟨"TelescopeDesk", "value", "(II)I"⟩
abbrev b_Desk_value : ByteArray := prog_1_method_18_code
def y_Desk_isPlace : MethodName := ⟨"TelescopeDesk", "isPlace", "(I)Z"⟩
abbrev b_Desk_isPlace : ByteArray := prog_1_method_25_code
def y_Term_isDefinedAt : MethodName := ⟨"TelescopeDesk$Term", "isDefinedAt", "(I)Z"⟩
abbrev b_Term_isDefinedAt : ByteArray := prog_6_method_7_code
def y_Term_at : MethodName := ⟨"TelescopeDesk$Term", "at", "(I)I"⟩
abbrev b_Term_at : ByteArray := prog_6_method_8_code
abbrev y_Math_abs : MethodName := Lib.Math.abs.name
abbrev b_Math_abs : ByteArray := Lib.Math.abs.code
def y_Desk_sum : MethodName := ⟨"TelescopeDesk", "sum", "(III)I"⟩
abbrev b_Desk_sum : ByteArray := prog_1_method_19_code
def y_Model_init : MethodName := ⟨"TelescopeDeskModel", "<init>", "()V"⟩
abbrev b_Model_init : ByteArray := prog_8_method_1_code
def y_Model_constant : MethodName := ⟨"TelescopeDeskModel", "constant", "(II)I"⟩
abbrev b_Model_constant : ByteArray := prog_8_method_19_code
def y_Model_linear : MethodName := ⟨"TelescopeDeskModel", "linear", "(III)I"⟩
abbrev b_Model_linear : ByteArray := prog_8_method_20_code
def y_Model_slot : MethodName := ⟨"TelescopeDeskModel", "slot", "(I)Z"⟩
abbrev b_Model_slot : ByteArray := prog_8_method_16_code
def y_Model_residue : MethodName := ⟨"TelescopeDeskModel", "residue", "(I)Z"⟩
abbrev b_Model_residue : ByteArray := prog_8_method_17_code
def y_Model_fresh : MethodName := ⟨"TelescopeDeskModel", "fresh", "(I)V"⟩
abbrev b_Model_fresh : ByteArray := prog_8_method_12_code
def y_Model_clear : MethodName := ⟨"TelescopeDeskModel", "clear", "(I)V"⟩
abbrev b_Model_clear : ByteArray := prog_8_method_5_code
def y_Model_finish : MethodName := ⟨"TelescopeDeskModel", "finish", "(I)I"⟩
abbrev b_Model_finish : ByteArray := prog_8_method_15_code
def y_Model_settled : MethodName := ⟨"TelescopeDeskModel", "settled", "()Z"⟩
abbrev b_Model_settled : ByteArray := prog_8_method_13_code
def y_Model_top : MethodName := ⟨"TelescopeDeskModel", "top", "(I)I"⟩
abbrev b_Model_top : ByteArray := prog_8_method_11_code
def y_Model_at : MethodName := ⟨"TelescopeDeskModel", "at", "(II)I"⟩
abbrev b_Model_at : ByteArray := prog_8_method_10_code
def y_Model_mod : MethodName := ⟨"TelescopeDeskModel", "mod", "(I)I"⟩
abbrev b_Model_mod : ByteArray := prog_8_method_2_code
def y_Model_divide : MethodName := ⟨"TelescopeDeskModel", "divide", "(II)V"⟩
abbrev b_Model_divide : ByteArray := prog_8_method_9_code
def y_Model_put : MethodName := ⟨"TelescopeDeskModel", "put", "(I)V"⟩
abbrev b_Model_put : ByteArray := prog_8_method_14_code
def y_Model_power : MethodName := ⟨"TelescopeDeskModel", "power", "(II)I"⟩
abbrev b_Model_power : ByteArray := prog_8_method_21_code
def y_Model_pole : MethodName := ⟨"TelescopeDeskModel", "pole", "(III)I"⟩
abbrev b_Model_pole : ByteArray := prog_8_method_22_code
def y_Model_add : MethodName := ⟨"TelescopeDeskModel", "add", "(III)I"⟩
abbrev b_Model_add : ByteArray := prog_8_method_23_code
def y_Model_isZero : MethodName := ⟨"TelescopeDeskModel", "isZero", "(I)Z"⟩
abbrev b_Model_isZero : ByteArray := prog_8_method_18_code
def y_Model_load : MethodName := ⟨"TelescopeDeskModel", "load", "(II)V"⟩
abbrev b_Model_load : ByteArray := prog_8_method_6_code
def y_Model_times : MethodName := ⟨"TelescopeDeskModel", "times", "(III)V"⟩
abbrev b_Model_times : ByteArray := prog_8_method_8_code
def y_Model_addRow : MethodName := ⟨"TelescopeDeskModel", "addRow", "(III)V"⟩
abbrev b_Model_addRow : ByteArray := prog_8_method_7_code
def y_Model_multiply : MethodName := ⟨"TelescopeDeskModel", "multiply", "(III)I"⟩
abbrev b_Model_multiply : ByteArray := prog_8_method_24_code
def y_Model_shift : MethodName := ⟨"TelescopeDeskModel", "shift", "(II)I"⟩
abbrev b_Model_shift : ByteArray := prog_8_method_26_code
def y_Model_moved : MethodName := ⟨"TelescopeDeskModel", "moved", "(II)V"⟩
abbrev b_Model_moved : ByteArray := prog_8_method_25_code
def y_Model_difference : MethodName := ⟨"TelescopeDeskModel", "difference", "(II)I"⟩
abbrev b_Model_difference : ByteArray := prog_8_method_28_code
def y_Model_differ : MethodName := ⟨"TelescopeDeskModel", "differ", "(I)V"⟩
abbrev b_Model_differ : ByteArray := prog_8_method_27_code
def y_Model_check : MethodName := ⟨"TelescopeDeskModel", "check", "(II)Z"⟩
abbrev b_Model_check : ByteArray := prog_8_method_29_code
def y_Model_same : MethodName := ⟨"TelescopeDeskModel", "same", "(II)Z"⟩
abbrev b_Model_same : ByteArray := prog_8_method_30_code
def y_Model_telescope : MethodName := ⟨"TelescopeDeskModel", "telescope", "(III)I"⟩
abbrev b_Model_telescope : ByteArray := prog_8_method_37_code
def y_Model_weigh : MethodName := ⟨"TelescopeDeskModel", "weigh", "(I)V"⟩
abbrev b_Model_weigh : ByteArray := prog_8_method_31_code
def y_Model_others : MethodName := ⟨"TelescopeDeskModel", "others", "(II)V"⟩
abbrev b_Model_others : ByteArray := prog_8_method_32_code
def y_Model_quotient : MethodName := ⟨"TelescopeDeskModel", "quotient", "(II)I"⟩
abbrev b_Model_quotient : ByteArray := prog_8_method_4_code
def y_Model_raise : MethodName := ⟨"TelescopeDeskModel", "raise", "(II)I"⟩
abbrev b_Model_raise : ByteArray := prog_8_method_3_code
def y_Model_total : MethodName := ⟨"TelescopeDeskModel", "total", "(I)V"⟩
abbrev b_Model_total : ByteArray := prog_8_method_36_code
def y_Model_solve : MethodName := ⟨"TelescopeDeskModel", "solve", "(I)V"⟩
abbrev b_Model_solve : ByteArray := prog_8_method_34_code
def y_Model_differences : MethodName := ⟨"TelescopeDeskModel", "differences", "()V"⟩
abbrev b_Model_differences : ByteArray := prog_8_method_33_code
def y_Model_rootOf : MethodName := ⟨"TelescopeDeskModel", "rootOf", "(III)I"⟩
abbrev b_Model_rootOf : ByteArray := prog_8_method_35_code
def y_Model_ratio : MethodName := ⟨"TelescopeDeskModel", "ratio", "(I)I"⟩
abbrev b_Model_ratio : ByteArray := prog_8_method_38_code
def y_Model_degree : MethodName := ⟨"TelescopeDeskModel", "degree", "(I)I"⟩
abbrev b_Model_degree : ByteArray := prog_8_method_39_code
def y_Model_coefficient : MethodName := ⟨"TelescopeDeskModel", "coefficient", "(II)I"⟩
abbrev b_Model_coefficient : ByteArray := prog_8_method_40_code
def y_Model_exponent : MethodName := ⟨"TelescopeDeskModel", "exponent", "(II)I"⟩
abbrev b_Model_exponent : ByteArray := prog_8_method_41_code
def y_Model_weight : MethodName := ⟨"TelescopeDeskModel", "weight", "(III)I"⟩
abbrev b_Model_weight : ByteArray := prog_8_method_42_code
def y_Model_value : MethodName := ⟨"TelescopeDeskModel", "value", "(II)I"⟩
abbrev b_Model_value : ByteArray := prog_8_method_45_code
def y_Model_place : MethodName := ⟨"TelescopeDeskModel", "place", "(I)Z"⟩
abbrev b_Model_place : ByteArray := prog_8_method_43_code
def y_Model_valueAt : MethodName := ⟨"TelescopeDeskModel", "valueAt", "(II)I"⟩
abbrev b_Model_valueAt : ByteArray := prog_8_method_44_code
def y_Model_sum : MethodName := ⟨"TelescopeDeskModel", "sum", "(III)I"⟩
abbrev b_Model_sum : ByteArray := prog_8_method_46_code
abbrev y_Sys_arraycopy : MethodName := arraycopyName
abbrev b_Law_law : ByteArray := code
theorem w0 : Cond.initialized "TelescopeDeskLaw" ∈ wA := in_wA 0 (by decide +kernel) (by decide +kernel)
theorem w1 : Cond.initialized "TelescopeDesk" ∈ wA := in_wA 1 (by decide +kernel) (by decide +kernel)
theorem w2 : Cond.initialized "TelescopeDesk$Term" ∈ wA := in_wA 2 (by decide +kernel) (by decide +kernel)
theorem w3 : Cond.initialized "TelescopeDesk$Poly" ∈ wA := in_wA 3 (by decide +kernel) (by decide +kernel)
theorem w4 : Cond.initialized "TelescopeDesk$Combiner" ∈ wA := in_wA 4 (by decide +kernel) (by decide +kernel)
theorem w5 : Cond.initialized "TelescopeDesk$Splitter" ∈ wA := in_wA 5 (by decide +kernel) (by decide +kernel)
theorem w6 : Cond.initialized "TelescopeDeskModel" ∈ wA := in_wA 6 (by decide +kernel) (by decide +kernel)
theorem w7 : Cond.initialized "java/util/Arrays" ∈ wA := in_wA 7 (by decide +kernel) (by decide +kernel)
theorem w8 : Cond.initialized "java/lang/System" ∈ wA := in_wA 8 (by decide +kernel) (by decide +kernel)
theorem w9 : Cond.initialized "java/lang/Math" ∈ wA := in_wA 9 (by decide +kernel) (by decide +kernel)
theorem w10 : Cond.initialized "TelescopeDesk$Residues" ∈ wA := in_wA 10 (by decide +kernel) (by decide +kernel)
theorem w11 : Cond.classLink "TelescopeDeskLaw" 7 "TelescopeDesk" ∈ wA := in_wA 11 (by decide +kernel) (by decide +kernel)
theorem w12 : Cond.instantiable "TelescopeDesk" 5 ∈ wA := in_wA 12 (by decide +kernel) (by decide +kernel)
theorem w13 : Cond.methodLink "TelescopeDeskLaw" 9 y_Desk_init ∈ wA := in_wA 13 (by decide +kernel) (by decide +kernel)
theorem w14 : Cond.instanceMethod y_Desk_init ∈ wA := in_wA 14 (by decide +kernel) (by decide +kernel)
theorem w15 : Cond.code y_Desk_init b_Desk_init 2 none ∈ wA := in_wA 15 (by decide +kernel) (by decide +kernel)
theorem w16 : Cond.methodLink "TelescopeDesk" 3 y_Obj_init ∈ wA := in_wA 16 (by decide +kernel) (by decide +kernel)
theorem w17 : Cond.instanceMethod y_Obj_init ∈ wA := in_wA 17 (by decide +kernel) (by decide +kernel)
theorem w18 : Cond.code y_Obj_init b_Obj_init 1 none ∈ wA := in_wA 18 (by decide +kernel) (by decide +kernel)
theorem w19 : Cond.classLink "TelescopeDesk" 9 "TelescopeDesk$Term" ∈ wA := in_wA 19 (by decide +kernel) (by decide +kernel)
theorem w21 : Cond.instantiable "TelescopeDesk$Term" 3 ∈ wA := in_wA 21 (by decide +kernel) (by decide +kernel)
theorem w22 : Cond.methodLink "TelescopeDesk" 15 y_Term_init ∈ wA := in_wA 22 (by decide +kernel) (by decide +kernel)
theorem w23 : Cond.instanceMethod y_Term_init ∈ wA := in_wA 23 (by decide +kernel) (by decide +kernel)
theorem w24 : Cond.code y_Term_init b_Term_init 2 none ∈ wA := in_wA 24 (by decide +kernel) (by decide +kernel)
theorem w25 : Cond.methodLink "TelescopeDesk$Term" 3 y_Obj_init ∈ wA := in_wA 25 (by decide +kernel) (by decide +kernel)
theorem w26 : Cond.classLink "TelescopeDesk$Term" 9 "TelescopeDesk$Poly" ∈ wA := in_wA 26 (by decide +kernel) (by decide +kernel)
theorem w27 : Cond.instantiable "TelescopeDesk$Poly" 2 ∈ wA := in_wA 27 (by decide +kernel) (by decide +kernel)
theorem w28 : Cond.methodLink "TelescopeDesk$Term" 11 y_Poly_init ∈ wA := in_wA 28 (by decide +kernel) (by decide +kernel)
theorem w29 : Cond.instanceMethod y_Poly_init ∈ wA := in_wA 29 (by decide +kernel) (by decide +kernel)
theorem w30 : Cond.code y_Poly_init b_Poly_init 2 none ∈ wA := in_wA 30 (by decide +kernel) (by decide +kernel)
theorem w31 : Cond.methodLink "TelescopeDesk$Poly" 3 y_Obj_init ∈ wA := in_wA 31 (by decide +kernel) (by decide +kernel)
theorem w32 : Cond.fieldLink "TelescopeDesk$Poly" 9 "TelescopeDesk$Poly" "c" "[I" ∈ wA := in_wA 32 (by decide +kernel) (by decide +kernel)
theorem w33 : Cond.fieldLink "TelescopeDesk$Splitter" 97 "TelescopeDesk$Poly" "c" "[I" ∈ wA := in_wA 33 (by decide +kernel) (by decide +kernel)
theorem w34 : Cond.fieldLink "TelescopeDesk" 113 "TelescopeDesk$Poly" "c" "[I" ∈ wA := in_wA 34 (by decide +kernel) (by decide +kernel)
theorem w35 : Cond.fieldLink "TelescopeDesk$Poly" 15 "TelescopeDesk$Poly" "top" "I" ∈ wA := in_wA 35 (by decide +kernel) (by decide +kernel)
theorem w36 : Cond.fieldLink "TelescopeDesk$Term" 47 "TelescopeDesk$Poly" "top" "I" ∈ wA := in_wA 36 (by decide +kernel) (by decide +kernel)
theorem w37 : Cond.fieldLink "TelescopeDesk$Splitter" 107 "TelescopeDesk$Poly" "top" "I" ∈ wA := in_wA 37 (by decide +kernel) (by decide +kernel)
theorem w38 : Cond.fieldLink "TelescopeDesk" 110 "TelescopeDesk$Poly" "top" "I" ∈ wA := in_wA 38 (by decide +kernel) (by decide +kernel)
theorem w39 : Cond.laysFinal "TelescopeDesk$Poly" "TelescopeDesk$Poly" "c" "[I" ∈ wA := in_wA 39 (by decide +kernel) (by decide +kernel)
theorem w41 : Cond.lays "TelescopeDesk$Poly" "TelescopeDesk$Poly" "top" "I" ∈ wA := in_wA 41 (by decide +kernel) (by decide +kernel)
theorem w44 : Cond.arrayClass FieldType.int ∈ wA := in_wA 44 (by decide +kernel) (by decide +kernel)
theorem w45 : Cond.fieldLink "TelescopeDesk$Term" 14 "TelescopeDesk$Term" "n" "LTelescopeDesk$Poly;" ∈ wA := in_wA 45 (by decide +kernel) (by decide +kernel)
theorem w46 : Cond.fieldLink "TelescopeDesk" 49 "TelescopeDesk$Term" "n" "LTelescopeDesk$Poly;" ∈ wA := in_wA 46 (by decide +kernel) (by decide +kernel)
theorem w47 : Cond.fieldLink "TelescopeDesk$Combiner" 45 "TelescopeDesk$Term" "n" "LTelescopeDesk$Poly;" ∈ wA := in_wA 47 (by decide +kernel) (by decide +kernel)
theorem w48 : Cond.fieldLink "TelescopeDesk$Splitter" 59 "TelescopeDesk$Term" "n" "LTelescopeDesk$Poly;" ∈ wA := in_wA 48 (by decide +kernel) (by decide +kernel)
theorem w49 : Cond.fieldLink "TelescopeDesk$Term" 20 "TelescopeDesk$Term" "e" "[I" ∈ wA := in_wA 49 (by decide +kernel) (by decide +kernel)
theorem w50 : Cond.fieldLink "TelescopeDesk$Combiner" 35 "TelescopeDesk$Term" "e" "[I" ∈ wA := in_wA 50 (by decide +kernel) (by decide +kernel)
theorem w51 : Cond.fieldLink "TelescopeDesk$Splitter" 70 "TelescopeDesk$Term" "e" "[I" ∈ wA := in_wA 51 (by decide +kernel) (by decide +kernel)
theorem w52 : Cond.fieldLink "TelescopeDesk" 73 "TelescopeDesk$Term" "e" "[I" ∈ wA := in_wA 52 (by decide +kernel) (by decide +kernel)
theorem w53 : Cond.fieldLink "TelescopeDesk$Term" 24 "TelescopeDesk$Term" "z" "I" ∈ wA := in_wA 53 (by decide +kernel) (by decide +kernel)
theorem w54 : Cond.fieldLink "TelescopeDesk$Combiner" 31 "TelescopeDesk$Term" "z" "I" ∈ wA := in_wA 54 (by decide +kernel) (by decide +kernel)
theorem w55 : Cond.fieldLink "TelescopeDesk$Splitter" 49 "TelescopeDesk$Term" "z" "I" ∈ wA := in_wA 55 (by decide +kernel) (by decide +kernel)
theorem w56 : Cond.fieldLink "TelescopeDesk" 63 "TelescopeDesk$Term" "z" "I" ∈ wA := in_wA 56 (by decide +kernel) (by decide +kernel)
theorem w57 : Cond.laysFinal "TelescopeDesk$Term" "TelescopeDesk$Term" "n" "LTelescopeDesk$Poly;" ∈ wA := in_wA 57 (by decide +kernel) (by decide +kernel)
theorem w59 : Cond.laysFinal "TelescopeDesk$Term" "TelescopeDesk$Term" "e" "[I" ∈ wA := in_wA 59 (by decide +kernel) (by decide +kernel)
theorem w61 : Cond.lays "TelescopeDesk$Term" "TelescopeDesk$Term" "z" "I" ∈ wA := in_wA 61 (by decide +kernel) (by decide +kernel)
theorem w64 : Cond.classLink "TelescopeDesk" 25 "TelescopeDesk$Combiner" ∈ wA := in_wA 64 (by decide +kernel) (by decide +kernel)
theorem w65 : Cond.instantiable "TelescopeDesk$Combiner" 2 ∈ wA := in_wA 65 (by decide +kernel) (by decide +kernel)
theorem w66 : Cond.methodLink "TelescopeDesk" 27 y_Comb_init ∈ wA := in_wA 66 (by decide +kernel) (by decide +kernel)
theorem w67 : Cond.instanceMethod y_Comb_init ∈ wA := in_wA 67 (by decide +kernel) (by decide +kernel)
theorem w68 : Cond.code y_Comb_init b_Comb_init 1 none ∈ wA := in_wA 68 (by decide +kernel) (by decide +kernel)
theorem w69 : Cond.methodLink "TelescopeDesk$Combiner" 3 y_Obj_init ∈ wA := in_wA 69 (by decide +kernel) (by decide +kernel)
theorem w70 : Cond.classLink "TelescopeDesk$Combiner" 9 "TelescopeDesk$Term" ∈ wA := in_wA 70 (by decide +kernel) (by decide +kernel)
theorem w71 : Cond.methodLink "TelescopeDesk$Combiner" 11 y_Term_init ∈ wA := in_wA 71 (by decide +kernel) (by decide +kernel)
theorem w72 : Cond.classLink "TelescopeDesk$Combiner" 20 "TelescopeDesk$Poly" ∈ wA := in_wA 72 (by decide +kernel) (by decide +kernel)
theorem w73 : Cond.methodLink "TelescopeDesk$Combiner" 22 y_Poly_init ∈ wA := in_wA 73 (by decide +kernel) (by decide +kernel)
theorem w74 : Cond.fieldLink "TelescopeDesk$Combiner" 14 "TelescopeDesk$Combiner" "next" "LTelescopeDesk$Term;" ∈ wA := in_wA 74 (by decide +kernel) (by decide +kernel)
theorem w75 : Cond.fieldLink "TelescopeDesk$Combiner" 23 "TelescopeDesk$Combiner" "widened" "LTelescopeDesk$Poly;" ∈ wA := in_wA 75 (by decide +kernel) (by decide +kernel)
theorem w76 : Cond.laysFinal "TelescopeDesk$Combiner" "TelescopeDesk$Combiner" "next" "LTelescopeDesk$Term;" ∈ wA := in_wA 76 (by decide +kernel) (by decide +kernel)
theorem w78 : Cond.laysFinal "TelescopeDesk$Combiner" "TelescopeDesk$Combiner" "widened" "LTelescopeDesk$Poly;" ∈ wA := in_wA 78 (by decide +kernel) (by decide +kernel)
theorem w81 : Cond.classLink "TelescopeDesk" 32 "TelescopeDesk$Splitter" ∈ wA := in_wA 81 (by decide +kernel) (by decide +kernel)
theorem w82 : Cond.instantiable "TelescopeDesk$Splitter" 5 ∈ wA := in_wA 82 (by decide +kernel) (by decide +kernel)
theorem w83 : Cond.methodLink "TelescopeDesk" 34 y_Split_init ∈ wA := in_wA 83 (by decide +kernel) (by decide +kernel)
theorem w84 : Cond.instanceMethod y_Split_init ∈ wA := in_wA 84 (by decide +kernel) (by decide +kernel)
theorem w85 : Cond.code y_Split_init b_Split_init 1 none ∈ wA := in_wA 85 (by decide +kernel) (by decide +kernel)
theorem w86 : Cond.methodLink "TelescopeDesk$Splitter" 3 y_Obj_init ∈ wA := in_wA 86 (by decide +kernel) (by decide +kernel)
theorem w87 : Cond.classLink "TelescopeDesk$Splitter" 18 "TelescopeDesk$Poly" ∈ wA := in_wA 87 (by decide +kernel) (by decide +kernel)
theorem w88 : Cond.methodLink "TelescopeDesk$Splitter" 20 y_Poly_init ∈ wA := in_wA 88 (by decide +kernel) (by decide +kernel)
theorem w89 : Cond.fieldLink "TelescopeDesk$Splitter" 9 "TelescopeDesk$Splitter" "series" "[I" ∈ wA := in_wA 89 (by decide +kernel) (by decide +kernel)
theorem w90 : Cond.fieldLink "TelescopeDesk$Splitter" 15 "TelescopeDesk$Splitter" "parts" "[I" ∈ wA := in_wA 90 (by decide +kernel) (by decide +kernel)
theorem w91 : Cond.fieldLink "TelescopeDesk$Splitter" 23 "TelescopeDesk$Splitter" "rest" "LTelescopeDesk$Poly;" ∈ wA := in_wA 91 (by decide +kernel) (by decide +kernel)
theorem w92 : Cond.fieldLink "TelescopeDesk$Splitter" 27 "TelescopeDesk$Splitter" "step" "LTelescopeDesk$Poly;" ∈ wA := in_wA 92 (by decide +kernel) (by decide +kernel)
theorem w93 : Cond.fieldLink "TelescopeDesk$Splitter" 30 "TelescopeDesk$Splitter" "whole" "LTelescopeDesk$Poly;" ∈ wA := in_wA 93 (by decide +kernel) (by decide +kernel)
theorem w94 : Cond.laysFinal "TelescopeDesk$Splitter" "TelescopeDesk$Splitter" "series" "[I" ∈ wA := in_wA 94 (by decide +kernel) (by decide +kernel)
theorem w96 : Cond.laysFinal "TelescopeDesk$Splitter" "TelescopeDesk$Splitter" "parts" "[I" ∈ wA := in_wA 96 (by decide +kernel) (by decide +kernel)
theorem w98 : Cond.laysFinal "TelescopeDesk$Splitter" "TelescopeDesk$Splitter" "rest" "LTelescopeDesk$Poly;" ∈ wA := in_wA 98 (by decide +kernel) (by decide +kernel)
theorem w100 : Cond.laysFinal "TelescopeDesk$Splitter" "TelescopeDesk$Splitter" "step" "LTelescopeDesk$Poly;" ∈ wA := in_wA 100 (by decide +kernel) (by decide +kernel)
theorem w102 : Cond.laysFinal "TelescopeDesk$Splitter" "TelescopeDesk$Splitter" "whole" "LTelescopeDesk$Poly;" ∈ wA := in_wA 102 (by decide +kernel) (by decide +kernel)
theorem w105 : Cond.fieldLink "TelescopeDesk" 11 "TelescopeDesk" "slots" "[LTelescopeDesk$Term;" ∈ wA := in_wA 105 (by decide +kernel) (by decide +kernel)
theorem w106 : Cond.fieldLink "TelescopeDesk" 18 "TelescopeDesk" "result" "LTelescopeDesk$Term;" ∈ wA := in_wA 106 (by decide +kernel) (by decide +kernel)
theorem w107 : Cond.fieldLink "TelescopeDesk" 22 "TelescopeDesk" "remainder" "LTelescopeDesk$Term;" ∈ wA := in_wA 107 (by decide +kernel) (by decide +kernel)
theorem w108 : Cond.fieldLink "TelescopeDesk" 28 "TelescopeDesk" "combiner" "LTelescopeDesk$Combiner;" ∈ wA := in_wA 108 (by decide +kernel) (by decide +kernel)
theorem w109 : Cond.fieldLink "TelescopeDesk" 35 "TelescopeDesk" "splitter" "LTelescopeDesk$Splitter;" ∈ wA := in_wA 109 (by decide +kernel) (by decide +kernel)
theorem w110 : Cond.laysFinal "TelescopeDesk" "TelescopeDesk" "slots" "[LTelescopeDesk$Term;" ∈ wA := in_wA 110 (by decide +kernel) (by decide +kernel)
theorem w112 : Cond.laysFinal "TelescopeDesk" "TelescopeDesk" "result" "LTelescopeDesk$Term;" ∈ wA := in_wA 112 (by decide +kernel) (by decide +kernel)
theorem w114 : Cond.laysFinal "TelescopeDesk" "TelescopeDesk" "remainder" "LTelescopeDesk$Term;" ∈ wA := in_wA 114 (by decide +kernel) (by decide +kernel)
theorem w116 : Cond.laysFinal "TelescopeDesk" "TelescopeDesk" "combiner" "LTelescopeDesk$Combiner;" ∈ wA := in_wA 116 (by decide +kernel) (by decide +kernel)
theorem w118 : Cond.laysFinal "TelescopeDesk" "TelescopeDesk" "splitter" "LTelescopeDesk$Splitter;" ∈ wA := in_wA 118 (by decide +kernel) (by decide +kernel)
theorem w121 : Cond.methodLink "TelescopeDeskLaw" 13 y_Desk_constant ∈ wA := in_wA 121 (by decide +kernel) (by decide +kernel)
theorem w122 : Cond.instanceMethod y_Desk_constant ∈ wA := in_wA 122 (by decide +kernel) (by decide +kernel)
theorem w123 : Cond.selects "TelescopeDesk" y_Desk_constant y_Desk_constant ∈ wA := in_wA 123 (by decide +kernel) (by decide +kernel)
theorem w124 : Cond.code y_Desk_constant b_Desk_constant 3 (some .int) ∈ wA := in_wA 124 (by decide +kernel) (by decide +kernel)
theorem w125 : Cond.methodLink "TelescopeDesk" 39 y_Desk_isSlot ∈ wA := in_wA 125 (by decide +kernel) (by decide +kernel)
theorem w126 : Cond.static y_Desk_isSlot ∈ wA := in_wA 126 (by decide +kernel) (by decide +kernel)
theorem w127 : Cond.code y_Desk_isSlot b_Desk_isSlot 1 (some .boolean) ∈ wA := in_wA 127 (by decide +kernel) (by decide +kernel)
theorem w128 : Cond.methodLink "TelescopeDesk" 43 y_Desk_isResidue ∈ wA := in_wA 128 (by decide +kernel) (by decide +kernel)
theorem w129 : Cond.static y_Desk_isResidue ∈ wA := in_wA 129 (by decide +kernel) (by decide +kernel)
theorem w130 : Cond.code y_Desk_isResidue b_Desk_isResidue 1 (some .boolean) ∈ wA := in_wA 130 (by decide +kernel) (by decide +kernel)
theorem w131 : Cond.methodLink "TelescopeDesk" 46 y_Term_clear ∈ wA := in_wA 131 (by decide +kernel) (by decide +kernel)
theorem w132 : Cond.instanceMethod y_Term_clear ∈ wA := in_wA 132 (by decide +kernel) (by decide +kernel)
theorem w133 : Cond.selects "TelescopeDesk$Term" y_Term_clear y_Term_clear ∈ wA := in_wA 133 (by decide +kernel) (by decide +kernel)
theorem w134 : Cond.code y_Term_clear b_Term_clear 1 none ∈ wA := in_wA 134 (by decide +kernel) (by decide +kernel)
theorem w135 : Cond.methodLink "TelescopeDesk$Term" 28 y_Poly_clear ∈ wA := in_wA 135 (by decide +kernel) (by decide +kernel)
theorem w136 : Cond.instanceMethod y_Poly_clear ∈ wA := in_wA 136 (by decide +kernel) (by decide +kernel)
theorem w137 : Cond.selects "TelescopeDesk$Poly" y_Poly_clear y_Poly_clear ∈ wA := in_wA 137 (by decide +kernel) (by decide +kernel)
theorem w138 : Cond.code y_Poly_clear b_Poly_clear 1 none ∈ wA := in_wA 138 (by decide +kernel) (by decide +kernel)
theorem w139 : Cond.methodLink "TelescopeDesk$Poly" 19 y_Arr_fill ∈ wA := in_wA 139 (by decide +kernel) (by decide +kernel)
theorem w140 : Cond.static y_Arr_fill ∈ wA := in_wA 140 (by decide +kernel) (by decide +kernel)
theorem w141 : Cond.code y_Arr_fill b_Arr_fill 4 none ∈ wA := in_wA 141 (by decide +kernel) (by decide +kernel)
theorem w142 : Cond.methodLink "TelescopeDesk$Term" 31 y_Arr_fill ∈ wA := in_wA 142 (by decide +kernel) (by decide +kernel)
theorem w143 : Cond.methodLink "TelescopeDesk" 53 y_Poly_setLinear ∈ wA := in_wA 143 (by decide +kernel) (by decide +kernel)
theorem w144 : Cond.instanceMethod y_Poly_setLinear ∈ wA := in_wA 144 (by decide +kernel) (by decide +kernel)
theorem w145 : Cond.selects "TelescopeDesk$Poly" y_Poly_setLinear y_Poly_setLinear ∈ wA := in_wA 145 (by decide +kernel) (by decide +kernel)
theorem w146 : Cond.code y_Poly_setLinear b_Poly_setLinear 3 none ∈ wA := in_wA 146 (by decide +kernel) (by decide +kernel)
theorem w147 : Cond.methodLink "TelescopeDesk$Poly" 25 y_Poly_clear ∈ wA := in_wA 147 (by decide +kernel) (by decide +kernel)
theorem w148 : Cond.methodLink "TelescopeDesk$Poly" 28 y_Poly_trim ∈ wA := in_wA 148 (by decide +kernel) (by decide +kernel)
theorem w149 : Cond.instanceMethod y_Poly_trim ∈ wA := in_wA 149 (by decide +kernel) (by decide +kernel)
theorem w150 : Cond.selects "TelescopeDesk$Poly" y_Poly_trim y_Poly_trim ∈ wA := in_wA 150 (by decide +kernel) (by decide +kernel)
theorem w151 : Cond.code y_Poly_trim b_Poly_trim 1 none ∈ wA := in_wA 151 (by decide +kernel) (by decide +kernel)
theorem w152 : Cond.methodLink "TelescopeDesk" 59 y_Desk_keepResult ∈ wA := in_wA 152 (by decide +kernel) (by decide +kernel)
theorem w154 : Cond.instanceMethod y_Desk_keepResult ∈ wA := in_wA 154 (by decide +kernel) (by decide +kernel)
theorem w155 : Cond.code y_Desk_keepResult b_Desk_keepResult 2 (some .int) ∈ wA := in_wA 155 (by decide +kernel) (by decide +kernel)
theorem w156 : Cond.methodLink "TelescopeDesk" 100 y_Term_isOver ∈ wA := in_wA 156 (by decide +kernel) (by decide +kernel)
theorem w157 : Cond.instanceMethod y_Term_isOver ∈ wA := in_wA 157 (by decide +kernel) (by decide +kernel)
theorem w158 : Cond.selects "TelescopeDesk$Term" y_Term_isOver y_Term_isOver ∈ wA := in_wA 158 (by decide +kernel) (by decide +kernel)
theorem w159 : Cond.code y_Term_isOver b_Term_isOver 2 (some .boolean) ∈ wA := in_wA 159 (by decide +kernel) (by decide +kernel)
theorem w160 : Cond.methodLink "TelescopeDesk" 103 y_Term_copyFrom ∈ wA := in_wA 160 (by decide +kernel) (by decide +kernel)
theorem w161 : Cond.instanceMethod y_Term_copyFrom ∈ wA := in_wA 161 (by decide +kernel) (by decide +kernel)
theorem w162 : Cond.selects "TelescopeDesk$Term" y_Term_copyFrom y_Term_copyFrom ∈ wA := in_wA 162 (by decide +kernel) (by decide +kernel)
theorem w163 : Cond.code y_Term_copyFrom b_Term_copyFrom 2 none ∈ wA := in_wA 163 (by decide +kernel) (by decide +kernel)
theorem w164 : Cond.methodLink "TelescopeDesk$Term" 37 y_Poly_copyFrom ∈ wA := in_wA 164 (by decide +kernel) (by decide +kernel)
theorem w165 : Cond.instanceMethod y_Poly_copyFrom ∈ wA := in_wA 165 (by decide +kernel) (by decide +kernel)
theorem w166 : Cond.selects "TelescopeDesk$Poly" y_Poly_copyFrom y_Poly_copyFrom ∈ wA := in_wA 166 (by decide +kernel) (by decide +kernel)
theorem w167 : Cond.code y_Poly_copyFrom b_Poly_copyFrom 3 none ∈ wA := in_wA 167 (by decide +kernel) (by decide +kernel)
theorem w168 : Cond.methodLink "TelescopeDesk$Term" 41 y_Sys_arraycopy ∈ wA := in_wA 168 (by decide +kernel) (by decide +kernel)
theorem w169 : Cond.static y_Sys_arraycopy ∈ wA := in_wA 169 (by decide +kernel) (by decide +kernel)
theorem w170 : Cond.native y_Sys_arraycopy ∈ wA := in_wA 170 (by decide +kernel) (by decide +kernel)
theorem w171 : Cond.methodLink "TelescopeDeskLaw" 18 y_Desk_linear ∈ wA := in_wA 171 (by decide +kernel) (by decide +kernel)
theorem w172 : Cond.instanceMethod y_Desk_linear ∈ wA := in_wA 172 (by decide +kernel) (by decide +kernel)
theorem w173 : Cond.selects "TelescopeDesk" y_Desk_linear y_Desk_linear ∈ wA := in_wA 173 (by decide +kernel) (by decide +kernel)
theorem w174 : Cond.code y_Desk_linear b_Desk_linear 4 (some .int) ∈ wA := in_wA 174 (by decide +kernel) (by decide +kernel)
theorem w175 : Cond.methodLink "TelescopeDeskLaw" 23 y_Desk_power ∈ wA := in_wA 175 (by decide +kernel) (by decide +kernel)
theorem w176 : Cond.instanceMethod y_Desk_power ∈ wA := in_wA 176 (by decide +kernel) (by decide +kernel)
theorem w177 : Cond.selects "TelescopeDesk" y_Desk_power y_Desk_power ∈ wA := in_wA 177 (by decide +kernel) (by decide +kernel)
theorem w178 : Cond.code y_Desk_power b_Desk_power 3 (some .int) ∈ wA := in_wA 178 (by decide +kernel) (by decide +kernel)
theorem w179 : Cond.methodLink "TelescopeDeskLaw" 27 y_Desk_pole ∈ wA := in_wA 179 (by decide +kernel) (by decide +kernel)
theorem w180 : Cond.instanceMethod y_Desk_pole ∈ wA := in_wA 180 (by decide +kernel) (by decide +kernel)
theorem w181 : Cond.selects "TelescopeDesk" y_Desk_pole y_Desk_pole ∈ wA := in_wA 181 (by decide +kernel) (by decide +kernel)
theorem w182 : Cond.code y_Desk_pole b_Desk_pole 4 (some .int) ∈ wA := in_wA 182 (by decide +kernel) (by decide +kernel)
theorem w183 : Cond.methodLink "TelescopeDesk" 67 y_Desk_isPole ∈ wA := in_wA 183 (by decide +kernel) (by decide +kernel)
theorem w184 : Cond.static y_Desk_isPole ∈ wA := in_wA 184 (by decide +kernel) (by decide +kernel)
theorem w185 : Cond.code y_Desk_isPole b_Desk_isPole 1 (some .boolean) ∈ wA := in_wA 185 (by decide +kernel) (by decide +kernel)
theorem w186 : Cond.methodLink "TelescopeDesk" 70 y_Desk_isPositiveExponent ∈ wA := in_wA 186 (by decide +kernel) (by decide +kernel)
theorem w187 : Cond.static y_Desk_isPositiveExponent ∈ wA := in_wA 187 (by decide +kernel) (by decide +kernel)
theorem w188 : Cond.code y_Desk_isPositiveExponent b_Desk_isPositiveExponent 1 (some .boolean) ∈ wA := in_wA 188 (by decide +kernel) (by decide +kernel)
theorem w189 : Cond.methodLink "TelescopeDeskLaw" 31 y_Desk_add ∈ wA := in_wA 189 (by decide +kernel) (by decide +kernel)
theorem w190 : Cond.instanceMethod y_Desk_add ∈ wA := in_wA 190 (by decide +kernel) (by decide +kernel)
theorem w191 : Cond.selects "TelescopeDesk" y_Desk_add y_Desk_add ∈ wA := in_wA 191 (by decide +kernel) (by decide +kernel)
theorem w192 : Cond.code y_Desk_add b_Desk_add 4 (some .int) ∈ wA := in_wA 192 (by decide +kernel) (by decide +kernel)
theorem w193 : Cond.methodLink "TelescopeDesk" 77 y_Term_isZero ∈ wA := in_wA 193 (by decide +kernel) (by decide +kernel)
theorem w194 : Cond.instanceMethod y_Term_isZero ∈ wA := in_wA 194 (by decide +kernel) (by decide +kernel)
theorem w195 : Cond.selects "TelescopeDesk$Term" y_Term_isZero y_Term_isZero ∈ wA := in_wA 195 (by decide +kernel) (by decide +kernel)
theorem w196 : Cond.code y_Term_isZero b_Term_isZero 1 (some .boolean) ∈ wA := in_wA 196 (by decide +kernel) (by decide +kernel)
theorem w197 : Cond.methodLink "TelescopeDesk" 81 y_Comb_combine ∈ wA := in_wA 197 (by decide +kernel) (by decide +kernel)
theorem w198 : Cond.instanceMethod y_Comb_combine ∈ wA := in_wA 198 (by decide +kernel) (by decide +kernel)
theorem w199 : Cond.selects "TelescopeDesk$Combiner" y_Comb_combine y_Comb_combine ∈ wA := in_wA 199 (by decide +kernel) (by decide +kernel)
theorem w200 : Cond.code y_Comb_combine b_Comb_combine 6 none ∈ wA := in_wA 200 (by decide +kernel) (by decide +kernel)
theorem w201 : Cond.methodLink "TelescopeDesk$Combiner" 27 y_Term_isZero ∈ wA := in_wA 201 (by decide +kernel) (by decide +kernel)
theorem w202 : Cond.methodLink "TelescopeDesk$Combiner" 39 y_Math_max ∈ wA := in_wA 202 (by decide +kernel) (by decide +kernel)
theorem w203 : Cond.static y_Math_max ∈ wA := in_wA 203 (by decide +kernel) (by decide +kernel)
theorem w204 : Cond.code y_Math_max b_Math_max 2 (some .int) ∈ wA := in_wA 204 (by decide +kernel) (by decide +kernel)
theorem w205 : Cond.methodLink "TelescopeDesk$Combiner" 48 y_Poly_clear ∈ wA := in_wA 205 (by decide +kernel) (by decide +kernel)
theorem w206 : Cond.methodLink "TelescopeDesk$Combiner" 51 y_Comb_addWidened ∈ wA := in_wA 206 (by decide +kernel) (by decide +kernel)
theorem w208 : Cond.instanceMethod y_Comb_addWidened ∈ wA := in_wA 208 (by decide +kernel) (by decide +kernel)
theorem w209 : Cond.code y_Comb_addWidened b_Comb_addWidened 5 none ∈ wA := in_wA 209 (by decide +kernel) (by decide +kernel)
theorem w210 : Cond.methodLink "TelescopeDesk$Combiner" 66 y_Poly_copyFrom ∈ wA := in_wA 210 (by decide +kernel) (by decide +kernel)
theorem w211 : Cond.methodLink "TelescopeDesk$Combiner" 70 y_Poly_multiplyBy ∈ wA := in_wA 211 (by decide +kernel) (by decide +kernel)
theorem w212 : Cond.instanceMethod y_Poly_multiplyBy ∈ wA := in_wA 212 (by decide +kernel) (by decide +kernel)
theorem w213 : Cond.selects "TelescopeDesk$Poly" y_Poly_multiplyBy y_Poly_multiplyBy ∈ wA := in_wA 213 (by decide +kernel) (by decide +kernel)
theorem w214 : Cond.code y_Poly_multiplyBy b_Poly_multiplyBy 5 none ∈ wA := in_wA 214 (by decide +kernel) (by decide +kernel)
theorem w215 : Cond.methodLink "TelescopeDesk$Poly" 31 y_Math_min ∈ wA := in_wA 215 (by decide +kernel) (by decide +kernel)
theorem w216 : Cond.static y_Math_min ∈ wA := in_wA 216 (by decide +kernel) (by decide +kernel)
theorem w217 : Cond.code y_Math_min b_Math_min 2 (some .int) ∈ wA := in_wA 217 (by decide +kernel) (by decide +kernel)
theorem w218 : Cond.methodLink "TelescopeDesk$Combiner" 74 y_Poly_addScaled ∈ wA := in_wA 218 (by decide +kernel) (by decide +kernel)
theorem w219 : Cond.instanceMethod y_Poly_addScaled ∈ wA := in_wA 219 (by decide +kernel) (by decide +kernel)
theorem w220 : Cond.selects "TelescopeDesk$Poly" y_Poly_addScaled y_Poly_addScaled ∈ wA := in_wA 220 (by decide +kernel) (by decide +kernel)
theorem w221 : Cond.code y_Poly_addScaled b_Poly_addScaled 5 none ∈ wA := in_wA 221 (by decide +kernel) (by decide +kernel)
theorem w222 : Cond.methodLink "TelescopeDesk$Combiner" 55 y_Term_normalise ∈ wA := in_wA 222 (by decide +kernel) (by decide +kernel)
theorem w223 : Cond.instanceMethod y_Term_normalise ∈ wA := in_wA 223 (by decide +kernel) (by decide +kernel)
theorem w224 : Cond.selects "TelescopeDesk$Term" y_Term_normalise y_Term_normalise ∈ wA := in_wA 224 (by decide +kernel) (by decide +kernel)
theorem w225 : Cond.code y_Term_normalise b_Term_normalise 3 none ∈ wA := in_wA 225 (by decide +kernel) (by decide +kernel)
theorem w226 : Cond.methodLink "TelescopeDesk$Term" 75 y_Term_isZero ∈ wA := in_wA 226 (by decide +kernel) (by decide +kernel)
theorem w227 : Cond.methodLink "TelescopeDesk$Term" 79 y_Term_clear ∈ wA := in_wA 227 (by decide +kernel) (by decide +kernel)
theorem w228 : Cond.methodLink "TelescopeDesk$Term" 54 y_Res_of ∈ wA := in_wA 228 (by decide +kernel) (by decide +kernel)
theorem w229 : Cond.static y_Res_of ∈ wA := in_wA 229 (by decide +kernel) (by decide +kernel)
theorem w230 : Cond.code y_Res_of b_Res_of 1 (some .int) ∈ wA := in_wA 230 (by decide +kernel) (by decide +kernel)
theorem w231 : Cond.methodLink "TelescopeDesk$Residues" 9 y_Math_floorMod ∈ wA := in_wA 231 (by decide +kernel) (by decide +kernel)
theorem w232 : Cond.static y_Math_floorMod ∈ wA := in_wA 232 (by decide +kernel) (by decide +kernel)
theorem w233 : Cond.code y_Math_floorMod b_Math_floorMod 3 (some .int) ∈ wA := in_wA 233 (by decide +kernel) (by decide +kernel)
theorem w234 : Cond.methodLink "TelescopeDesk$Term" 72 y_Poly_at ∈ wA := in_wA 234 (by decide +kernel) (by decide +kernel)
theorem w235 : Cond.instanceMethod y_Poly_at ∈ wA := in_wA 235 (by decide +kernel) (by decide +kernel)
theorem w236 : Cond.selects "TelescopeDesk$Poly" y_Poly_at y_Poly_at ∈ wA := in_wA 236 (by decide +kernel) (by decide +kernel)
theorem w237 : Cond.code y_Poly_at b_Poly_at 4 (some .int) ∈ wA := in_wA 237 (by decide +kernel) (by decide +kernel)
theorem w238 : Cond.methodLink "TelescopeDesk$Term" 80 y_Poly_divideBy ∈ wA := in_wA 238 (by decide +kernel) (by decide +kernel)
theorem w239 : Cond.instanceMethod y_Poly_divideBy ∈ wA := in_wA 239 (by decide +kernel) (by decide +kernel)
theorem w240 : Cond.selects "TelescopeDesk$Poly" y_Poly_divideBy y_Poly_divideBy ∈ wA := in_wA 240 (by decide +kernel) (by decide +kernel)
theorem w241 : Cond.code y_Poly_divideBy b_Poly_divideBy 6 (some .int) ∈ wA := in_wA 241 (by decide +kernel) (by decide +kernel)
theorem w242 : Cond.methodLink "TelescopeDesk$Poly" 37 y_Res_of ∈ wA := in_wA 242 (by decide +kernel) (by decide +kernel)
theorem w243 : Cond.methodLink "TelescopeDeskLaw" 35 y_Desk_multiply ∈ wA := in_wA 243 (by decide +kernel) (by decide +kernel)
theorem w244 : Cond.instanceMethod y_Desk_multiply ∈ wA := in_wA 244 (by decide +kernel) (by decide +kernel)
theorem w245 : Cond.selects "TelescopeDesk" y_Desk_multiply y_Desk_multiply ∈ wA := in_wA 245 (by decide +kernel) (by decide +kernel)
theorem w246 : Cond.code y_Desk_multiply b_Desk_multiply 4 (some .int) ∈ wA := in_wA 246 (by decide +kernel) (by decide +kernel)
theorem w247 : Cond.methodLink "TelescopeDesk" 85 y_Term_becomeProduct ∈ wA := in_wA 247 (by decide +kernel) (by decide +kernel)
theorem w248 : Cond.instanceMethod y_Term_becomeProduct ∈ wA := in_wA 248 (by decide +kernel) (by decide +kernel)
theorem w249 : Cond.selects "TelescopeDesk$Term" y_Term_becomeProduct y_Term_becomeProduct ∈ wA := in_wA 249 (by decide +kernel) (by decide +kernel)
theorem w250 : Cond.code y_Term_becomeProduct b_Term_becomeProduct 4 none ∈ wA := in_wA 250 (by decide +kernel) (by decide +kernel)
theorem w251 : Cond.methodLink "TelescopeDesk$Term" 83 y_Poly_becomeProduct ∈ wA := in_wA 251 (by decide +kernel) (by decide +kernel)
theorem w252 : Cond.instanceMethod y_Poly_becomeProduct ∈ wA := in_wA 252 (by decide +kernel) (by decide +kernel)
theorem w253 : Cond.selects "TelescopeDesk$Poly" y_Poly_becomeProduct y_Poly_becomeProduct ∈ wA := in_wA 253 (by decide +kernel) (by decide +kernel)
theorem w254 : Cond.code y_Poly_becomeProduct b_Poly_becomeProduct 5 none ∈ wA := in_wA 254 (by decide +kernel) (by decide +kernel)
theorem w255 : Cond.methodLink "TelescopeDesk$Term" 87 y_Term_normalise ∈ wA := in_wA 255 (by decide +kernel) (by decide +kernel)
theorem w256 : Cond.methodLink "TelescopeDeskLaw" 39 y_Desk_shift ∈ wA := in_wA 256 (by decide +kernel) (by decide +kernel)
theorem w257 : Cond.instanceMethod y_Desk_shift ∈ wA := in_wA 257 (by decide +kernel) (by decide +kernel)
theorem w258 : Cond.selects "TelescopeDesk" y_Desk_shift y_Desk_shift ∈ wA := in_wA 258 (by decide +kernel) (by decide +kernel)
theorem w259 : Cond.code y_Desk_shift b_Desk_shift 3 (some .int) ∈ wA := in_wA 259 (by decide +kernel) (by decide +kernel)
theorem w260 : Cond.methodLink "TelescopeDesk" 89 y_Term_becomeNext ∈ wA := in_wA 260 (by decide +kernel) (by decide +kernel)
theorem w261 : Cond.instanceMethod y_Term_becomeNext ∈ wA := in_wA 261 (by decide +kernel) (by decide +kernel)
theorem w262 : Cond.selects "TelescopeDesk$Term" y_Term_becomeNext y_Term_becomeNext ∈ wA := in_wA 262 (by decide +kernel) (by decide +kernel)
theorem w263 : Cond.code y_Term_becomeNext b_Term_becomeNext 2 none ∈ wA := in_wA 263 (by decide +kernel) (by decide +kernel)
theorem w264 : Cond.methodLink "TelescopeDesk$Term" 90 y_Poly_moveOn ∈ wA := in_wA 264 (by decide +kernel) (by decide +kernel)
theorem w265 : Cond.instanceMethod y_Poly_moveOn ∈ wA := in_wA 265 (by decide +kernel) (by decide +kernel)
theorem w266 : Cond.selects "TelescopeDesk$Poly" y_Poly_moveOn y_Poly_moveOn ∈ wA := in_wA 266 (by decide +kernel) (by decide +kernel)
theorem w267 : Cond.code y_Poly_moveOn b_Poly_moveOn 3 none ∈ wA := in_wA 267 (by decide +kernel) (by decide +kernel)
theorem w268 : Cond.methodLink "TelescopeDesk$Term" 93 y_Poly_scale ∈ wA := in_wA 268 (by decide +kernel) (by decide +kernel)
theorem w269 : Cond.instanceMethod y_Poly_scale ∈ wA := in_wA 269 (by decide +kernel) (by decide +kernel)
theorem w270 : Cond.selects "TelescopeDesk$Poly" y_Poly_scale y_Poly_scale ∈ wA := in_wA 270 (by decide +kernel) (by decide +kernel)
theorem w271 : Cond.code y_Poly_scale b_Poly_scale 3 none ∈ wA := in_wA 271 (by decide +kernel) (by decide +kernel)
theorem w272 : Cond.methodLink "TelescopeDeskLaw" 43 y_Desk_difference ∈ wA := in_wA 272 (by decide +kernel) (by decide +kernel)
theorem w273 : Cond.instanceMethod y_Desk_difference ∈ wA := in_wA 273 (by decide +kernel) (by decide +kernel)
theorem w274 : Cond.selects "TelescopeDesk" y_Desk_difference y_Desk_difference ∈ wA := in_wA 274 (by decide +kernel) (by decide +kernel)
theorem w275 : Cond.code y_Desk_difference b_Desk_difference 3 (some .int) ∈ wA := in_wA 275 (by decide +kernel) (by decide +kernel)
theorem w276 : Cond.methodLink "TelescopeDesk" 93 y_Comb_subtractFromNext ∈ wA := in_wA 276 (by decide +kernel) (by decide +kernel)
theorem w277 : Cond.instanceMethod y_Comb_subtractFromNext ∈ wA := in_wA 277 (by decide +kernel) (by decide +kernel)
theorem w278 : Cond.selects "TelescopeDesk$Combiner" y_Comb_subtractFromNext y_Comb_subtractFromNext ∈ wA := in_wA 278 (by decide +kernel) (by decide +kernel)
theorem w279 : Cond.code y_Comb_subtractFromNext b_Comb_subtractFromNext 3 none ∈ wA := in_wA 279 (by decide +kernel) (by decide +kernel)
theorem w280 : Cond.methodLink "TelescopeDesk$Combiner" 58 y_Term_becomeNext ∈ wA := in_wA 280 (by decide +kernel) (by decide +kernel)
theorem w281 : Cond.methodLink "TelescopeDesk$Combiner" 62 y_Comb_combine ∈ wA := in_wA 281 (by decide +kernel) (by decide +kernel)
theorem w282 : Cond.methodLink "TelescopeDeskLaw" 47 y_Desk_telescope ∈ wA := in_wA 282 (by decide +kernel) (by decide +kernel)
theorem w283 : Cond.instanceMethod y_Desk_telescope ∈ wA := in_wA 283 (by decide +kernel) (by decide +kernel)
theorem w284 : Cond.selects "TelescopeDesk" y_Desk_telescope y_Desk_telescope ∈ wA := in_wA 284 (by decide +kernel) (by decide +kernel)
theorem w285 : Cond.code y_Desk_telescope b_Desk_telescope 4 (some .int) ∈ wA := in_wA 285 (by decide +kernel) (by decide +kernel)
theorem w286 : Cond.methodLink "TelescopeDesk" 96 y_Split_split ∈ wA := in_wA 286 (by decide +kernel) (by decide +kernel)
theorem w287 : Cond.instanceMethod y_Split_split ∈ wA := in_wA 287 (by decide +kernel) (by decide +kernel)
theorem w288 : Cond.selects "TelescopeDesk$Splitter" y_Split_split y_Split_split ∈ wA := in_wA 288 (by decide +kernel) (by decide +kernel)
theorem w289 : Cond.code y_Split_split b_Split_split 4 none ∈ wA := in_wA 289 (by decide +kernel) (by decide +kernel)
theorem w290 : Cond.methodLink "TelescopeDesk$Splitter" 41 y_Split_splitPoles ∈ wA := in_wA 290 (by decide +kernel) (by decide +kernel)
theorem w292 : Cond.instanceMethod y_Split_splitPoles ∈ wA := in_wA 292 (by decide +kernel) (by decide +kernel)
theorem w293 : Cond.code y_Split_splitPoles b_Split_splitPoles 7 none ∈ wA := in_wA 293 (by decide +kernel) (by decide +kernel)
theorem w294 : Cond.methodLink "TelescopeDesk$Splitter" 81 y_Res_invert ∈ wA := in_wA 294 (by decide +kernel) (by decide +kernel)
theorem w295 : Cond.static y_Res_invert ∈ wA := in_wA 295 (by decide +kernel) (by decide +kernel)
theorem w296 : Cond.code y_Res_invert b_Res_invert 1 (some .int) ∈ wA := in_wA 296 (by decide +kernel) (by decide +kernel)
theorem w297 : Cond.methodLink "TelescopeDesk$Residues" 15 y_Res_raise ∈ wA := in_wA 297 (by decide +kernel) (by decide +kernel)
theorem w298 : Cond.static y_Res_raise ∈ wA := in_wA 298 (by decide +kernel) (by decide +kernel)
theorem w299 : Cond.code y_Res_raise b_Res_raise 5 (some .int) ∈ wA := in_wA 299 (by decide +kernel) (by decide +kernel)
theorem w300 : Cond.methodLink "TelescopeDesk$Splitter" 84 y_Term_clear ∈ wA := in_wA 300 (by decide +kernel) (by decide +kernel)
theorem w301 : Cond.methodLink "TelescopeDesk$Splitter" 87 y_Arr_fill ∈ wA := in_wA 301 (by decide +kernel) (by decide +kernel)
theorem w302 : Cond.methodLink "TelescopeDesk$Splitter" 33 y_Split_expandAt ∈ wA := in_wA 302 (by decide +kernel) (by decide +kernel)
theorem w304 : Cond.instanceMethod y_Split_expandAt ∈ wA := in_wA 304 (by decide +kernel) (by decide +kernel)
theorem w305 : Cond.code y_Split_expandAt b_Split_expandAt 5 none ∈ wA := in_wA 305 (by decide +kernel) (by decide +kernel)
theorem w306 : Cond.methodLink "TelescopeDesk$Splitter" 62 y_Poly_copyFrom ∈ wA := in_wA 306 (by decide +kernel) (by decide +kernel)
theorem w307 : Cond.methodLink "TelescopeDesk$Splitter" 66 y_Poly_divideBy ∈ wA := in_wA 307 (by decide +kernel) (by decide +kernel)
theorem w308 : Cond.methodLink "TelescopeDesk$Splitter" 73 y_Res_of ∈ wA := in_wA 308 (by decide +kernel) (by decide +kernel)
theorem w309 : Cond.methodLink "TelescopeDesk$Splitter" 78 y_Split_divideSeries ∈ wA := in_wA 309 (by decide +kernel) (by decide +kernel)
theorem w311 : Cond.instanceMethod y_Split_divideSeries ∈ wA := in_wA 311 (by decide +kernel) (by decide +kernel)
theorem w312 : Cond.code y_Split_divideSeries b_Split_divideSeries 5 none ∈ wA := in_wA 312 (by decide +kernel) (by decide +kernel)
theorem w313 : Cond.methodLink "TelescopeDesk$Splitter" 37 y_Split_expandedWeight ∈ wA := in_wA 313 (by decide +kernel) (by decide +kernel)
theorem w315 : Cond.instanceMethod y_Split_expandedWeight ∈ wA := in_wA 315 (by decide +kernel) (by decide +kernel)
theorem w316 : Cond.code y_Split_expandedWeight b_Split_expandedWeight 5 (some .int) ∈ wA := in_wA 316 (by decide +kernel) (by decide +kernel)
theorem w317 : Cond.methodLink "TelescopeDesk$Splitter" 93 y_Split_partIndex ∈ wA := in_wA 317 (by decide +kernel) (by decide +kernel)
theorem w318 : Cond.static y_Split_partIndex ∈ wA := in_wA 318 (by decide +kernel) (by decide +kernel)
theorem w319 : Cond.code y_Split_partIndex b_Split_partIndex 2 (some .int) ∈ wA := in_wA 319 (by decide +kernel) (by decide +kernel)
theorem w320 : Cond.methodLink "TelescopeDesk$Splitter" 100 y_Poly_trim ∈ wA := in_wA 320 (by decide +kernel) (by decide +kernel)
theorem w321 : Cond.methodLink "TelescopeDesk$Splitter" 103 y_Term_normalise ∈ wA := in_wA 321 (by decide +kernel) (by decide +kernel)
theorem w322 : Cond.methodLink "TelescopeDesk$Splitter" 45 y_Split_splitWhole ∈ wA := in_wA 322 (by decide +kernel) (by decide +kernel)
theorem w324 : Cond.instanceMethod y_Split_splitWhole ∈ wA := in_wA 324 (by decide +kernel) (by decide +kernel)
theorem w325 : Cond.code y_Split_splitWhole b_Split_splitWhole 5 none ∈ wA := in_wA 325 (by decide +kernel) (by decide +kernel)
theorem w326 : Cond.methodLink "TelescopeDesk$Splitter" 106 y_Poly_clear ∈ wA := in_wA 326 (by decide +kernel) (by decide +kernel)
theorem w327 : Cond.methodLink "TelescopeDesk$Splitter" 110 y_Split_setDifferenceOfPower ∈ wA := in_wA 327 (by decide +kernel) (by decide +kernel)
theorem w329 : Cond.instanceMethod y_Split_setDifferenceOfPower ∈ wA := in_wA 329 (by decide +kernel) (by decide +kernel)
theorem w330 : Cond.code y_Split_setDifferenceOfPower b_Split_setDifferenceOfPower 3 none ∈ wA := in_wA 330 (by decide +kernel) (by decide +kernel)
theorem w331 : Cond.methodLink "TelescopeDesk$Splitter" 118 y_Poly_setLinear ∈ wA := in_wA 331 (by decide +kernel) (by decide +kernel)
theorem w332 : Cond.methodLink "TelescopeDesk$Splitter" 121 y_Poly_multiplyBy ∈ wA := in_wA 332 (by decide +kernel) (by decide +kernel)
theorem w333 : Cond.methodLink "TelescopeDesk$Splitter" 114 y_Poly_addScaled ∈ wA := in_wA 333 (by decide +kernel) (by decide +kernel)
theorem w334 : Cond.methodLink "TelescopeDesk$Splitter" 55 y_Split_gather ∈ wA := in_wA 334 (by decide +kernel) (by decide +kernel)
theorem w336 : Cond.instanceMethod y_Split_gather ∈ wA := in_wA 336 (by decide +kernel) (by decide +kernel)
theorem w337 : Cond.code y_Split_gather b_Split_gather 5 none ∈ wA := in_wA 337 (by decide +kernel) (by decide +kernel)
theorem w338 : Cond.methodLink "TelescopeDesk$Splitter" 124 y_Split_multiplyByPoles ∈ wA := in_wA 338 (by decide +kernel) (by decide +kernel)
theorem w339 : Cond.static y_Split_multiplyByPoles ∈ wA := in_wA 339 (by decide +kernel) (by decide +kernel)
theorem w340 : Cond.code y_Split_multiplyByPoles b_Split_multiplyByPoles 5 none ∈ wA := in_wA 340 (by decide +kernel) (by decide +kernel)
theorem w341 : Cond.methodLink "TelescopeDeskLaw" 51 y_Desk_check ∈ wA := in_wA 341 (by decide +kernel) (by decide +kernel)
theorem w342 : Cond.instanceMethod y_Desk_check ∈ wA := in_wA 342 (by decide +kernel) (by decide +kernel)
theorem w343 : Cond.selects "TelescopeDesk" y_Desk_check y_Desk_check ∈ wA := in_wA 343 (by decide +kernel) (by decide +kernel)
theorem w344 : Cond.code y_Desk_check b_Desk_check 3 (some .boolean) ∈ wA := in_wA 344 (by decide +kernel) (by decide +kernel)
theorem w345 : Cond.methodLink "TelescopeDesk" 106 y_Term_matches ∈ wA := in_wA 345 (by decide +kernel) (by decide +kernel)
theorem w346 : Cond.instanceMethod y_Term_matches ∈ wA := in_wA 346 (by decide +kernel) (by decide +kernel)
theorem w347 : Cond.selects "TelescopeDesk$Term" y_Term_matches y_Term_matches ∈ wA := in_wA 347 (by decide +kernel) (by decide +kernel)
theorem w348 : Cond.code y_Term_matches b_Term_matches 3 (some .boolean) ∈ wA := in_wA 348 (by decide +kernel) (by decide +kernel)
theorem w349 : Cond.methodLink "TelescopeDesk$Term" 50 y_Poly_matches ∈ wA := in_wA 349 (by decide +kernel) (by decide +kernel)
theorem w350 : Cond.instanceMethod y_Poly_matches ∈ wA := in_wA 350 (by decide +kernel) (by decide +kernel)
theorem w351 : Cond.selects "TelescopeDesk$Poly" y_Poly_matches y_Poly_matches ∈ wA := in_wA 351 (by decide +kernel) (by decide +kernel)
theorem w352 : Cond.code y_Poly_matches b_Poly_matches 3 (some .boolean) ∈ wA := in_wA 352 (by decide +kernel) (by decide +kernel)
theorem w353 : Cond.methodLink "TelescopeDeskLaw" 56 y_Desk_same ∈ wA := in_wA 353 (by decide +kernel) (by decide +kernel)
theorem w354 : Cond.instanceMethod y_Desk_same ∈ wA := in_wA 354 (by decide +kernel) (by decide +kernel)
theorem w355 : Cond.selects "TelescopeDesk" y_Desk_same y_Desk_same ∈ wA := in_wA 355 (by decide +kernel) (by decide +kernel)
theorem w356 : Cond.code y_Desk_same b_Desk_same 3 (some .boolean) ∈ wA := in_wA 356 (by decide +kernel) (by decide +kernel)
theorem w357 : Cond.methodLink "TelescopeDeskLaw" 60 y_Desk_ratio ∈ wA := in_wA 357 (by decide +kernel) (by decide +kernel)
theorem w358 : Cond.instanceMethod y_Desk_ratio ∈ wA := in_wA 358 (by decide +kernel) (by decide +kernel)
theorem w359 : Cond.selects "TelescopeDesk" y_Desk_ratio y_Desk_ratio ∈ wA := in_wA 359 (by decide +kernel) (by decide +kernel)
theorem w360 : Cond.code y_Desk_ratio b_Desk_ratio 2 (some .int) ∈ wA := in_wA 360 (by decide +kernel) (by decide +kernel)
theorem w361 : Cond.methodLink "TelescopeDeskLaw" 65 y_Desk_degree ∈ wA := in_wA 361 (by decide +kernel) (by decide +kernel)
theorem w362 : Cond.instanceMethod y_Desk_degree ∈ wA := in_wA 362 (by decide +kernel) (by decide +kernel)
theorem w363 : Cond.selects "TelescopeDesk" y_Desk_degree y_Desk_degree ∈ wA := in_wA 363 (by decide +kernel) (by decide +kernel)
theorem w364 : Cond.code y_Desk_degree b_Desk_degree 2 (some .int) ∈ wA := in_wA 364 (by decide +kernel) (by decide +kernel)
theorem w365 : Cond.methodLink "TelescopeDeskLaw" 69 y_Desk_coefficient ∈ wA := in_wA 365 (by decide +kernel) (by decide +kernel)
theorem w366 : Cond.instanceMethod y_Desk_coefficient ∈ wA := in_wA 366 (by decide +kernel) (by decide +kernel)
theorem w367 : Cond.selects "TelescopeDesk" y_Desk_coefficient y_Desk_coefficient ∈ wA := in_wA 367 (by decide +kernel) (by decide +kernel)
theorem w368 : Cond.code y_Desk_coefficient b_Desk_coefficient 3 (some .int) ∈ wA := in_wA 368 (by decide +kernel) (by decide +kernel)
theorem w369 : Cond.methodLink "TelescopeDeskLaw" 73 y_Desk_exponent ∈ wA := in_wA 369 (by decide +kernel) (by decide +kernel)
theorem w370 : Cond.instanceMethod y_Desk_exponent ∈ wA := in_wA 370 (by decide +kernel) (by decide +kernel)
theorem w371 : Cond.selects "TelescopeDesk" y_Desk_exponent y_Desk_exponent ∈ wA := in_wA 371 (by decide +kernel) (by decide +kernel)
theorem w372 : Cond.code y_Desk_exponent b_Desk_exponent 3 (some .int) ∈ wA := in_wA 372 (by decide +kernel) (by decide +kernel)
theorem w373 : Cond.methodLink "TelescopeDeskLaw" 77 y_Desk_weight ∈ wA := in_wA 373 (by decide +kernel) (by decide +kernel)
theorem w374 : Cond.instanceMethod y_Desk_weight ∈ wA := in_wA 374 (by decide +kernel) (by decide +kernel)
theorem w375 : Cond.selects "TelescopeDesk" y_Desk_weight y_Desk_weight ∈ wA := in_wA 375 (by decide +kernel) (by decide +kernel)
theorem w376 : Cond.code y_Desk_weight b_Desk_weight 4 (some .int) ∈ wA := in_wA 376 (by decide +kernel) (by decide +kernel)
theorem w377 : Cond.methodLink "TelescopeDesk" 116 y_Split_weightOf ∈ wA := in_wA 377 (by decide +kernel) (by decide +kernel)
theorem w378 : Cond.instanceMethod y_Split_weightOf ∈ wA := in_wA 378 (by decide +kernel) (by decide +kernel)
theorem w379 : Cond.selects "TelescopeDesk$Splitter" y_Split_weightOf y_Split_weightOf ∈ wA := in_wA 379 (by decide +kernel) (by decide +kernel)
theorem w380 : Cond.code y_Split_weightOf b_Split_weightOf 4 (some .int) ∈ wA := in_wA 380 (by decide +kernel) (by decide +kernel)
theorem w381 : Cond.methodLink "TelescopeDeskLaw" 81 y_Desk_value ∈ wA := in_wA 381 (by decide +kernel) (by decide +kernel)
theorem w382 : Cond.instanceMethod y_Desk_value ∈ wA := in_wA 382 (by decide +kernel) (by decide +kernel)
theorem w383 : Cond.selects "TelescopeDesk" y_Desk_value y_Desk_value ∈ wA := in_wA 383 (by decide +kernel) (by decide +kernel)
theorem w384 : Cond.code y_Desk_value b_Desk_value 3 (some .int) ∈ wA := in_wA 384 (by decide +kernel) (by decide +kernel)
theorem w385 : Cond.methodLink "TelescopeDesk" 120 y_Desk_isPlace ∈ wA := in_wA 385 (by decide +kernel) (by decide +kernel)
theorem w386 : Cond.static y_Desk_isPlace ∈ wA := in_wA 386 (by decide +kernel) (by decide +kernel)
theorem w387 : Cond.code y_Desk_isPlace b_Desk_isPlace 1 (some .boolean) ∈ wA := in_wA 387 (by decide +kernel) (by decide +kernel)
theorem w388 : Cond.methodLink "TelescopeDesk" 123 y_Term_isDefinedAt ∈ wA := in_wA 388 (by decide +kernel) (by decide +kernel)
theorem w389 : Cond.instanceMethod y_Term_isDefinedAt ∈ wA := in_wA 389 (by decide +kernel) (by decide +kernel)
theorem w390 : Cond.selects "TelescopeDesk$Term" y_Term_isDefinedAt y_Term_isDefinedAt ∈ wA := in_wA 390 (by decide +kernel) (by decide +kernel)
theorem w391 : Cond.code y_Term_isDefinedAt b_Term_isDefinedAt 3 (some .boolean) ∈ wA := in_wA 391 (by decide +kernel) (by decide +kernel)
theorem w392 : Cond.methodLink "TelescopeDesk" 126 y_Term_at ∈ wA := in_wA 392 (by decide +kernel) (by decide +kernel)
theorem w393 : Cond.instanceMethod y_Term_at ∈ wA := in_wA 393 (by decide +kernel) (by decide +kernel)
theorem w394 : Cond.selects "TelescopeDesk$Term" y_Term_at y_Term_at ∈ wA := in_wA 394 (by decide +kernel) (by decide +kernel)
theorem w395 : Cond.code y_Term_at b_Term_at 5 (some .int) ∈ wA := in_wA 395 (by decide +kernel) (by decide +kernel)
theorem w396 : Cond.methodLink "TelescopeDesk$Term" 60 y_Res_raise ∈ wA := in_wA 396 (by decide +kernel) (by decide +kernel)
theorem w397 : Cond.methodLink "TelescopeDesk$Term" 64 y_Res_invert ∈ wA := in_wA 397 (by decide +kernel) (by decide +kernel)
theorem w398 : Cond.methodLink "TelescopeDesk$Term" 67 y_Math_abs ∈ wA := in_wA 398 (by decide +kernel) (by decide +kernel)
theorem w399 : Cond.static y_Math_abs ∈ wA := in_wA 399 (by decide +kernel) (by decide +kernel)
theorem w400 : Cond.code y_Math_abs b_Math_abs 1 (some .int) ∈ wA := in_wA 400 (by decide +kernel) (by decide +kernel)
theorem w401 : Cond.methodLink "TelescopeDeskLaw" 85 y_Desk_sum ∈ wA := in_wA 401 (by decide +kernel) (by decide +kernel)
theorem w402 : Cond.instanceMethod y_Desk_sum ∈ wA := in_wA 402 (by decide +kernel) (by decide +kernel)
theorem w403 : Cond.selects "TelescopeDesk" y_Desk_sum y_Desk_sum ∈ wA := in_wA 403 (by decide +kernel) (by decide +kernel)
theorem w404 : Cond.code y_Desk_sum b_Desk_sum 6 (some .int) ∈ wA := in_wA 404 (by decide +kernel) (by decide +kernel)
theorem w405 : Cond.classLink "TelescopeDeskLaw" 10 "TelescopeDeskModel" ∈ wA := in_wA 405 (by decide +kernel) (by decide +kernel)
theorem w406 : Cond.instantiable "TelescopeDeskModel" 10 ∈ wA := in_wA 406 (by decide +kernel) (by decide +kernel)
theorem w407 : Cond.methodLink "TelescopeDeskLaw" 12 y_Model_init ∈ wA := in_wA 407 (by decide +kernel) (by decide +kernel)
theorem w408 : Cond.instanceMethod y_Model_init ∈ wA := in_wA 408 (by decide +kernel) (by decide +kernel)
theorem w409 : Cond.code y_Model_init b_Model_init 2 none ∈ wA := in_wA 409 (by decide +kernel) (by decide +kernel)
theorem w410 : Cond.methodLink "TelescopeDeskModel" 1 y_Obj_init ∈ wA := in_wA 410 (by decide +kernel) (by decide +kernel)
theorem w411 : Cond.fieldLink "TelescopeDeskModel" 7 "TelescopeDeskModel" "coefficient" "[I" ∈ wA := in_wA 411 (by decide +kernel) (by decide +kernel)
theorem w412 : Cond.fieldLink "TelescopeDeskModel" 13 "TelescopeDeskModel" "exponent" "[I" ∈ wA := in_wA 412 (by decide +kernel) (by decide +kernel)
theorem w413 : Cond.fieldLink "TelescopeDeskModel" 16 "TelescopeDeskModel" "ratio" "[I" ∈ wA := in_wA 413 (by decide +kernel) (by decide +kernel)
theorem w414 : Cond.fieldLink "TelescopeDeskModel" 19 "TelescopeDeskModel" "poly" "[I" ∈ wA := in_wA 414 (by decide +kernel) (by decide +kernel)
theorem w415 : Cond.fieldLink "TelescopeDeskModel" 22 "TelescopeDeskModel" "below" "[I" ∈ wA := in_wA 415 (by decide +kernel) (by decide +kernel)
theorem w416 : Cond.fieldLink "TelescopeDeskModel" 49 "TelescopeDeskModel" "z" "I" ∈ wA := in_wA 416 (by decide +kernel) (by decide +kernel)
theorem w417 : Cond.fieldLink "TelescopeDeskModel" 25 "TelescopeDeskModel" "weights" "[I" ∈ wA := in_wA 417 (by decide +kernel) (by decide +kernel)
theorem w418 : Cond.fieldLink "TelescopeDeskModel" 28 "TelescopeDeskModel" "roots" "[I" ∈ wA := in_wA 418 (by decide +kernel) (by decide +kernel)
theorem w419 : Cond.fieldLink "TelescopeDeskModel" 31 "TelescopeDeskModel" "left" "[I" ∈ wA := in_wA 419 (by decide +kernel) (by decide +kernel)
theorem w420 : Cond.fieldLink "TelescopeDeskModel" 34 "TelescopeDeskModel" "values" "[I" ∈ wA := in_wA 420 (by decide +kernel) (by decide +kernel)
theorem w421 : Cond.laysFinal "TelescopeDeskModel" "TelescopeDeskModel" "coefficient" "[I" ∈ wA := in_wA 421 (by decide +kernel) (by decide +kernel)
theorem w423 : Cond.laysFinal "TelescopeDeskModel" "TelescopeDeskModel" "exponent" "[I" ∈ wA := in_wA 423 (by decide +kernel) (by decide +kernel)
theorem w425 : Cond.laysFinal "TelescopeDeskModel" "TelescopeDeskModel" "ratio" "[I" ∈ wA := in_wA 425 (by decide +kernel) (by decide +kernel)
theorem w427 : Cond.laysFinal "TelescopeDeskModel" "TelescopeDeskModel" "poly" "[I" ∈ wA := in_wA 427 (by decide +kernel) (by decide +kernel)
theorem w429 : Cond.laysFinal "TelescopeDeskModel" "TelescopeDeskModel" "below" "[I" ∈ wA := in_wA 429 (by decide +kernel) (by decide +kernel)
theorem w431 : Cond.lays "TelescopeDeskModel" "TelescopeDeskModel" "z" "I" ∈ wA := in_wA 431 (by decide +kernel) (by decide +kernel)
theorem w433 : Cond.laysFinal "TelescopeDeskModel" "TelescopeDeskModel" "weights" "[I" ∈ wA := in_wA 433 (by decide +kernel) (by decide +kernel)
theorem w435 : Cond.laysFinal "TelescopeDeskModel" "TelescopeDeskModel" "roots" "[I" ∈ wA := in_wA 435 (by decide +kernel) (by decide +kernel)
theorem w437 : Cond.laysFinal "TelescopeDeskModel" "TelescopeDeskModel" "left" "[I" ∈ wA := in_wA 437 (by decide +kernel) (by decide +kernel)
theorem w439 : Cond.laysFinal "TelescopeDeskModel" "TelescopeDeskModel" "values" "[I" ∈ wA := in_wA 439 (by decide +kernel) (by decide +kernel)
theorem w442 : Cond.methodLink "TelescopeDeskLaw" 17 y_Model_constant ∈ wA := in_wA 442 (by decide +kernel) (by decide +kernel)
theorem w443 : Cond.instanceMethod y_Model_constant ∈ wA := in_wA 443 (by decide +kernel) (by decide +kernel)
theorem w444 : Cond.selects "TelescopeDeskModel" y_Model_constant y_Model_constant ∈ wA := in_wA 444 (by decide +kernel) (by decide +kernel)
theorem w445 : Cond.code y_Model_constant b_Model_constant 3 (some .int) ∈ wA := in_wA 445 (by decide +kernel) (by decide +kernel)
theorem w446 : Cond.methodLink "TelescopeDeskModel" 73 y_Model_linear ∈ wA := in_wA 446 (by decide +kernel) (by decide +kernel)
theorem w447 : Cond.instanceMethod y_Model_linear ∈ wA := in_wA 447 (by decide +kernel) (by decide +kernel)
theorem w448 : Cond.selects "TelescopeDeskModel" y_Model_linear y_Model_linear ∈ wA := in_wA 448 (by decide +kernel) (by decide +kernel)
theorem w449 : Cond.code y_Model_linear b_Model_linear 4 (some .int) ∈ wA := in_wA 449 (by decide +kernel) (by decide +kernel)
theorem w450 : Cond.methodLink "TelescopeDeskModel" 77 y_Model_slot ∈ wA := in_wA 450 (by decide +kernel) (by decide +kernel)
theorem w451 : Cond.static y_Model_slot ∈ wA := in_wA 451 (by decide +kernel) (by decide +kernel)
theorem w452 : Cond.code y_Model_slot b_Model_slot 1 (some .boolean) ∈ wA := in_wA 452 (by decide +kernel) (by decide +kernel)
theorem w453 : Cond.methodLink "TelescopeDeskModel" 81 y_Model_residue ∈ wA := in_wA 453 (by decide +kernel) (by decide +kernel)
theorem w454 : Cond.static y_Model_residue ∈ wA := in_wA 454 (by decide +kernel) (by decide +kernel)
theorem w455 : Cond.code y_Model_residue b_Model_residue 1 (some .boolean) ∈ wA := in_wA 455 (by decide +kernel) (by decide +kernel)
theorem w456 : Cond.methodLink "TelescopeDeskModel" 56 y_Model_fresh ∈ wA := in_wA 456 (by decide +kernel) (by decide +kernel)
theorem w458 : Cond.instanceMethod y_Model_fresh ∈ wA := in_wA 458 (by decide +kernel) (by decide +kernel)
theorem w459 : Cond.code y_Model_fresh b_Model_fresh 3 none ∈ wA := in_wA 459 (by decide +kernel) (by decide +kernel)
theorem w460 : Cond.methodLink "TelescopeDeskModel" 41 y_Model_clear ∈ wA := in_wA 460 (by decide +kernel) (by decide +kernel)
theorem w462 : Cond.instanceMethod y_Model_clear ∈ wA := in_wA 462 (by decide +kernel) (by decide +kernel)
theorem w463 : Cond.code y_Model_clear b_Model_clear 3 none ∈ wA := in_wA 463 (by decide +kernel) (by decide +kernel)
theorem w464 : Cond.methodLink "TelescopeDeskModel" 84 y_Model_finish ∈ wA := in_wA 464 (by decide +kernel) (by decide +kernel)
theorem w466 : Cond.instanceMethod y_Model_finish ∈ wA := in_wA 466 (by decide +kernel) (by decide +kernel)
theorem w467 : Cond.code y_Model_finish b_Model_finish 2 (some .int) ∈ wA := in_wA 467 (by decide +kernel) (by decide +kernel)
theorem w468 : Cond.methodLink "TelescopeDeskModel" 66 y_Model_settled ∈ wA := in_wA 468 (by decide +kernel) (by decide +kernel)
theorem w470 : Cond.instanceMethod y_Model_settled ∈ wA := in_wA 470 (by decide +kernel) (by decide +kernel)
theorem w471 : Cond.code y_Model_settled b_Model_settled 3 (some .boolean) ∈ wA := in_wA 471 (by decide +kernel) (by decide +kernel)
theorem w472 : Cond.methodLink "TelescopeDeskModel" 53 y_Model_top ∈ wA := in_wA 472 (by decide +kernel) (by decide +kernel)
theorem w474 : Cond.instanceMethod y_Model_top ∈ wA := in_wA 474 (by decide +kernel) (by decide +kernel)
theorem w475 : Cond.code y_Model_top b_Model_top 3 (some .int) ∈ wA := in_wA 475 (by decide +kernel) (by decide +kernel)
theorem w476 : Cond.methodLink "TelescopeDeskModel" 59 y_Model_at ∈ wA := in_wA 476 (by decide +kernel) (by decide +kernel)
theorem w478 : Cond.instanceMethod y_Model_at ∈ wA := in_wA 478 (by decide +kernel) (by decide +kernel)
theorem w479 : Cond.code y_Model_at b_Model_at 6 (some .int) ∈ wA := in_wA 479 (by decide +kernel) (by decide +kernel)
theorem w480 : Cond.methodLink "TelescopeDeskModel" 45 y_Model_mod ∈ wA := in_wA 480 (by decide +kernel) (by decide +kernel)
theorem w481 : Cond.static y_Model_mod ∈ wA := in_wA 481 (by decide +kernel) (by decide +kernel)
theorem w482 : Cond.code y_Model_mod b_Model_mod 2 (some .int) ∈ wA := in_wA 482 (by decide +kernel) (by decide +kernel)
theorem w483 : Cond.methodLink "TelescopeDeskModel" 62 y_Model_divide ∈ wA := in_wA 483 (by decide +kernel) (by decide +kernel)
theorem w485 : Cond.instanceMethod y_Model_divide ∈ wA := in_wA 485 (by decide +kernel) (by decide +kernel)
theorem w486 : Cond.code y_Model_divide b_Model_divide 7 none ∈ wA := in_wA 486 (by decide +kernel) (by decide +kernel)
theorem w487 : Cond.methodLink "TelescopeDeskModel" 70 y_Model_put ∈ wA := in_wA 487 (by decide +kernel) (by decide +kernel)
theorem w489 : Cond.instanceMethod y_Model_put ∈ wA := in_wA 489 (by decide +kernel) (by decide +kernel)
theorem w490 : Cond.code y_Model_put b_Model_put 3 none ∈ wA := in_wA 490 (by decide +kernel) (by decide +kernel)
theorem w491 : Cond.methodLink "TelescopeDeskLaw" 22 y_Model_linear ∈ wA := in_wA 491 (by decide +kernel) (by decide +kernel)
theorem w492 : Cond.methodLink "TelescopeDeskLaw" 26 y_Model_power ∈ wA := in_wA 492 (by decide +kernel) (by decide +kernel)
theorem w493 : Cond.instanceMethod y_Model_power ∈ wA := in_wA 493 (by decide +kernel) (by decide +kernel)
theorem w494 : Cond.selects "TelescopeDeskModel" y_Model_power y_Model_power ∈ wA := in_wA 494 (by decide +kernel) (by decide +kernel)
theorem w495 : Cond.code y_Model_power b_Model_power 3 (some .int) ∈ wA := in_wA 495 (by decide +kernel) (by decide +kernel)
theorem w496 : Cond.methodLink "TelescopeDeskLaw" 30 y_Model_pole ∈ wA := in_wA 496 (by decide +kernel) (by decide +kernel)
theorem w497 : Cond.instanceMethod y_Model_pole ∈ wA := in_wA 497 (by decide +kernel) (by decide +kernel)
theorem w498 : Cond.selects "TelescopeDeskModel" y_Model_pole y_Model_pole ∈ wA := in_wA 498 (by decide +kernel) (by decide +kernel)
theorem w499 : Cond.code y_Model_pole b_Model_pole 4 (some .int) ∈ wA := in_wA 499 (by decide +kernel) (by decide +kernel)
theorem w500 : Cond.methodLink "TelescopeDeskLaw" 34 y_Model_add ∈ wA := in_wA 500 (by decide +kernel) (by decide +kernel)
theorem w501 : Cond.instanceMethod y_Model_add ∈ wA := in_wA 501 (by decide +kernel) (by decide +kernel)
theorem w502 : Cond.selects "TelescopeDeskModel" y_Model_add y_Model_add ∈ wA := in_wA 502 (by decide +kernel) (by decide +kernel)
theorem w503 : Cond.code y_Model_add b_Model_add 7 (some .int) ∈ wA := in_wA 503 (by decide +kernel) (by decide +kernel)
theorem w504 : Cond.methodLink "TelescopeDeskModel" 87 y_Model_isZero ∈ wA := in_wA 504 (by decide +kernel) (by decide +kernel)
theorem w506 : Cond.instanceMethod y_Model_isZero ∈ wA := in_wA 506 (by decide +kernel) (by decide +kernel)
theorem w507 : Cond.code y_Model_isZero b_Model_isZero 4 (some .boolean) ∈ wA := in_wA 507 (by decide +kernel) (by decide +kernel)
theorem w508 : Cond.methodLink "TelescopeDeskModel" 90 y_Model_load ∈ wA := in_wA 508 (by decide +kernel) (by decide +kernel)
theorem w510 : Cond.instanceMethod y_Model_load ∈ wA := in_wA 510 (by decide +kernel) (by decide +kernel)
theorem w511 : Cond.code y_Model_load b_Model_load 4 none ∈ wA := in_wA 511 (by decide +kernel) (by decide +kernel)
theorem w512 : Cond.methodLink "TelescopeDeskModel" 93 y_Model_times ∈ wA := in_wA 512 (by decide +kernel) (by decide +kernel)
theorem w514 : Cond.instanceMethod y_Model_times ∈ wA := in_wA 514 (by decide +kernel) (by decide +kernel)
theorem w515 : Cond.code y_Model_times b_Model_times 7 none ∈ wA := in_wA 515 (by decide +kernel) (by decide +kernel)
theorem w516 : Cond.methodLink "TelescopeDeskModel" 97 y_Model_addRow ∈ wA := in_wA 516 (by decide +kernel) (by decide +kernel)
theorem w518 : Cond.instanceMethod y_Model_addRow ∈ wA := in_wA 518 (by decide +kernel) (by decide +kernel)
theorem w519 : Cond.code y_Model_addRow b_Model_addRow 5 none ∈ wA := in_wA 519 (by decide +kernel) (by decide +kernel)
theorem w520 : Cond.methodLink "TelescopeDeskLaw" 38 y_Model_multiply ∈ wA := in_wA 520 (by decide +kernel) (by decide +kernel)
theorem w521 : Cond.instanceMethod y_Model_multiply ∈ wA := in_wA 521 (by decide +kernel) (by decide +kernel)
theorem w522 : Cond.selects "TelescopeDeskModel" y_Model_multiply y_Model_multiply ∈ wA := in_wA 522 (by decide +kernel) (by decide +kernel)
theorem w523 : Cond.code y_Model_multiply b_Model_multiply 5 (some .int) ∈ wA := in_wA 523 (by decide +kernel) (by decide +kernel)
theorem w524 : Cond.methodLink "TelescopeDeskLaw" 42 y_Model_shift ∈ wA := in_wA 524 (by decide +kernel) (by decide +kernel)
theorem w525 : Cond.instanceMethod y_Model_shift ∈ wA := in_wA 525 (by decide +kernel) (by decide +kernel)
theorem w526 : Cond.selects "TelescopeDeskModel" y_Model_shift y_Model_shift ∈ wA := in_wA 526 (by decide +kernel) (by decide +kernel)
theorem w527 : Cond.code y_Model_shift b_Model_shift 4 (some .int) ∈ wA := in_wA 527 (by decide +kernel) (by decide +kernel)
theorem w528 : Cond.methodLink "TelescopeDeskModel" 100 y_Model_moved ∈ wA := in_wA 528 (by decide +kernel) (by decide +kernel)
theorem w530 : Cond.instanceMethod y_Model_moved ∈ wA := in_wA 530 (by decide +kernel) (by decide +kernel)
theorem w531 : Cond.code y_Model_moved b_Model_moved 4 none ∈ wA := in_wA 531 (by decide +kernel) (by decide +kernel)
theorem w532 : Cond.methodLink "TelescopeDeskLaw" 46 y_Model_difference ∈ wA := in_wA 532 (by decide +kernel) (by decide +kernel)
theorem w533 : Cond.instanceMethod y_Model_difference ∈ wA := in_wA 533 (by decide +kernel) (by decide +kernel)
theorem w534 : Cond.selects "TelescopeDeskModel" y_Model_difference y_Model_difference ∈ wA := in_wA 534 (by decide +kernel) (by decide +kernel)
theorem w535 : Cond.code y_Model_difference b_Model_difference 3 (some .int) ∈ wA := in_wA 535 (by decide +kernel) (by decide +kernel)
theorem w536 : Cond.methodLink "TelescopeDeskModel" 103 y_Model_differ ∈ wA := in_wA 536 (by decide +kernel) (by decide +kernel)
theorem w538 : Cond.instanceMethod y_Model_differ ∈ wA := in_wA 538 (by decide +kernel) (by decide +kernel)
theorem w539 : Cond.code y_Model_differ b_Model_differ 5 none ∈ wA := in_wA 539 (by decide +kernel) (by decide +kernel)
theorem w540 : Cond.methodLink "TelescopeDeskLaw" 55 y_Model_check ∈ wA := in_wA 540 (by decide +kernel) (by decide +kernel)
theorem w541 : Cond.instanceMethod y_Model_check ∈ wA := in_wA 541 (by decide +kernel) (by decide +kernel)
theorem w542 : Cond.selects "TelescopeDeskModel" y_Model_check y_Model_check ∈ wA := in_wA 542 (by decide +kernel) (by decide +kernel)
theorem w543 : Cond.code y_Model_check b_Model_check 5 (some .boolean) ∈ wA := in_wA 543 (by decide +kernel) (by decide +kernel)
theorem w544 : Cond.methodLink "TelescopeDeskLaw" 59 y_Model_same ∈ wA := in_wA 544 (by decide +kernel) (by decide +kernel)
theorem w545 : Cond.instanceMethod y_Model_same ∈ wA := in_wA 545 (by decide +kernel) (by decide +kernel)
theorem w546 : Cond.selects "TelescopeDeskModel" y_Model_same y_Model_same ∈ wA := in_wA 546 (by decide +kernel) (by decide +kernel)
theorem w547 : Cond.code y_Model_same b_Model_same 5 (some .boolean) ∈ wA := in_wA 547 (by decide +kernel) (by decide +kernel)
theorem w548 : Cond.methodLink "TelescopeDeskLaw" 50 y_Model_telescope ∈ wA := in_wA 548 (by decide +kernel) (by decide +kernel)
theorem w549 : Cond.instanceMethod y_Model_telescope ∈ wA := in_wA 549 (by decide +kernel) (by decide +kernel)
theorem w550 : Cond.selects "TelescopeDeskModel" y_Model_telescope y_Model_telescope ∈ wA := in_wA 550 (by decide +kernel) (by decide +kernel)
theorem w551 : Cond.code y_Model_telescope b_Model_telescope 7 (some .int) ∈ wA := in_wA 551 (by decide +kernel) (by decide +kernel)
theorem w552 : Cond.methodLink "TelescopeDeskModel" 121 y_Model_weigh ∈ wA := in_wA 552 (by decide +kernel) (by decide +kernel)
theorem w554 : Cond.instanceMethod y_Model_weigh ∈ wA := in_wA 554 (by decide +kernel) (by decide +kernel)
theorem w555 : Cond.code y_Model_weigh b_Model_weigh 5 none ∈ wA := in_wA 555 (by decide +kernel) (by decide +kernel)
theorem w556 : Cond.methodLink "TelescopeDeskModel" 106 y_Model_others ∈ wA := in_wA 556 (by decide +kernel) (by decide +kernel)
theorem w558 : Cond.instanceMethod y_Model_others ∈ wA := in_wA 558 (by decide +kernel) (by decide +kernel)
theorem w559 : Cond.code y_Model_others b_Model_others 4 none ∈ wA := in_wA 559 (by decide +kernel) (by decide +kernel)
theorem w560 : Cond.methodLink "TelescopeDeskModel" 109 y_Model_quotient ∈ wA := in_wA 560 (by decide +kernel) (by decide +kernel)
theorem w561 : Cond.static y_Model_quotient ∈ wA := in_wA 561 (by decide +kernel) (by decide +kernel)
theorem w562 : Cond.code y_Model_quotient b_Model_quotient 2 (some .int) ∈ wA := in_wA 562 (by decide +kernel) (by decide +kernel)
theorem w563 : Cond.methodLink "TelescopeDeskModel" 37 y_Model_raise ∈ wA := in_wA 563 (by decide +kernel) (by decide +kernel)
theorem w564 : Cond.static y_Model_raise ∈ wA := in_wA 564 (by decide +kernel) (by decide +kernel)
theorem w565 : Cond.code y_Model_raise b_Model_raise 5 (some .int) ∈ wA := in_wA 565 (by decide +kernel) (by decide +kernel)
theorem w566 : Cond.methodLink "TelescopeDeskModel" 124 y_Model_total ∈ wA := in_wA 566 (by decide +kernel) (by decide +kernel)
theorem w568 : Cond.instanceMethod y_Model_total ∈ wA := in_wA 568 (by decide +kernel) (by decide +kernel)
theorem w569 : Cond.code y_Model_total b_Model_total 5 none ∈ wA := in_wA 569 (by decide +kernel) (by decide +kernel)
theorem w570 : Cond.methodLink "TelescopeDeskModel" 115 y_Model_solve ∈ wA := in_wA 570 (by decide +kernel) (by decide +kernel)
theorem w572 : Cond.instanceMethod y_Model_solve ∈ wA := in_wA 572 (by decide +kernel) (by decide +kernel)
theorem w573 : Cond.code y_Model_solve b_Model_solve 7 none ∈ wA := in_wA 573 (by decide +kernel) (by decide +kernel)
theorem w574 : Cond.methodLink "TelescopeDeskModel" 112 y_Model_differences ∈ wA := in_wA 574 (by decide +kernel) (by decide +kernel)
theorem w576 : Cond.instanceMethod y_Model_differences ∈ wA := in_wA 576 (by decide +kernel) (by decide +kernel)
theorem w577 : Cond.code y_Model_differences b_Model_differences 3 none ∈ wA := in_wA 577 (by decide +kernel) (by decide +kernel)
theorem w578 : Cond.methodLink "TelescopeDeskModel" 118 y_Model_rootOf ∈ wA := in_wA 578 (by decide +kernel) (by decide +kernel)
theorem w580 : Cond.instanceMethod y_Model_rootOf ∈ wA := in_wA 580 (by decide +kernel) (by decide +kernel)
theorem w581 : Cond.code y_Model_rootOf b_Model_rootOf 7 (some .int) ∈ wA := in_wA 581 (by decide +kernel) (by decide +kernel)
theorem w582 : Cond.methodLink "TelescopeDeskLaw" 64 y_Model_ratio ∈ wA := in_wA 582 (by decide +kernel) (by decide +kernel)
theorem w583 : Cond.instanceMethod y_Model_ratio ∈ wA := in_wA 583 (by decide +kernel) (by decide +kernel)
theorem w584 : Cond.selects "TelescopeDeskModel" y_Model_ratio y_Model_ratio ∈ wA := in_wA 584 (by decide +kernel) (by decide +kernel)
theorem w585 : Cond.code y_Model_ratio b_Model_ratio 2 (some .int) ∈ wA := in_wA 585 (by decide +kernel) (by decide +kernel)
theorem w586 : Cond.methodLink "TelescopeDeskLaw" 68 y_Model_degree ∈ wA := in_wA 586 (by decide +kernel) (by decide +kernel)
theorem w587 : Cond.instanceMethod y_Model_degree ∈ wA := in_wA 587 (by decide +kernel) (by decide +kernel)
theorem w588 : Cond.selects "TelescopeDeskModel" y_Model_degree y_Model_degree ∈ wA := in_wA 588 (by decide +kernel) (by decide +kernel)
theorem w589 : Cond.code y_Model_degree b_Model_degree 2 (some .int) ∈ wA := in_wA 589 (by decide +kernel) (by decide +kernel)
theorem w590 : Cond.methodLink "TelescopeDeskLaw" 72 y_Model_coefficient ∈ wA := in_wA 590 (by decide +kernel) (by decide +kernel)
theorem w591 : Cond.instanceMethod y_Model_coefficient ∈ wA := in_wA 591 (by decide +kernel) (by decide +kernel)
theorem w592 : Cond.selects "TelescopeDeskModel" y_Model_coefficient y_Model_coefficient ∈ wA := in_wA 592 (by decide +kernel) (by decide +kernel)
theorem w593 : Cond.code y_Model_coefficient b_Model_coefficient 3 (some .int) ∈ wA := in_wA 593 (by decide +kernel) (by decide +kernel)
theorem w594 : Cond.methodLink "TelescopeDeskLaw" 76 y_Model_exponent ∈ wA := in_wA 594 (by decide +kernel) (by decide +kernel)
theorem w595 : Cond.instanceMethod y_Model_exponent ∈ wA := in_wA 595 (by decide +kernel) (by decide +kernel)
theorem w596 : Cond.selects "TelescopeDeskModel" y_Model_exponent y_Model_exponent ∈ wA := in_wA 596 (by decide +kernel) (by decide +kernel)
theorem w597 : Cond.code y_Model_exponent b_Model_exponent 3 (some .int) ∈ wA := in_wA 597 (by decide +kernel) (by decide +kernel)
theorem w598 : Cond.methodLink "TelescopeDeskLaw" 80 y_Model_weight ∈ wA := in_wA 598 (by decide +kernel) (by decide +kernel)
theorem w599 : Cond.instanceMethod y_Model_weight ∈ wA := in_wA 599 (by decide +kernel) (by decide +kernel)
theorem w600 : Cond.selects "TelescopeDeskModel" y_Model_weight y_Model_weight ∈ wA := in_wA 600 (by decide +kernel) (by decide +kernel)
theorem w601 : Cond.code y_Model_weight b_Model_weight 4 (some .int) ∈ wA := in_wA 601 (by decide +kernel) (by decide +kernel)
theorem w602 : Cond.methodLink "TelescopeDeskLaw" 84 y_Model_value ∈ wA := in_wA 602 (by decide +kernel) (by decide +kernel)
theorem w603 : Cond.instanceMethod y_Model_value ∈ wA := in_wA 603 (by decide +kernel) (by decide +kernel)
theorem w604 : Cond.selects "TelescopeDeskModel" y_Model_value y_Model_value ∈ wA := in_wA 604 (by decide +kernel) (by decide +kernel)
theorem w605 : Cond.code y_Model_value b_Model_value 3 (some .int) ∈ wA := in_wA 605 (by decide +kernel) (by decide +kernel)
theorem w606 : Cond.methodLink "TelescopeDeskModel" 127 y_Model_place ∈ wA := in_wA 606 (by decide +kernel) (by decide +kernel)
theorem w607 : Cond.static y_Model_place ∈ wA := in_wA 607 (by decide +kernel) (by decide +kernel)
theorem w608 : Cond.code y_Model_place b_Model_place 1 (some .boolean) ∈ wA := in_wA 608 (by decide +kernel) (by decide +kernel)
theorem w609 : Cond.methodLink "TelescopeDeskModel" 130 y_Model_valueAt ∈ wA := in_wA 609 (by decide +kernel) (by decide +kernel)
theorem w611 : Cond.instanceMethod y_Model_valueAt ∈ wA := in_wA 611 (by decide +kernel) (by decide +kernel)
theorem w612 : Cond.code y_Model_valueAt b_Model_valueAt 7 (some .int) ∈ wA := in_wA 612 (by decide +kernel) (by decide +kernel)
theorem w613 : Cond.methodLink "TelescopeDeskLaw" 88 y_Model_sum ∈ wA := in_wA 613 (by decide +kernel) (by decide +kernel)
theorem w614 : Cond.instanceMethod y_Model_sum ∈ wA := in_wA 614 (by decide +kernel) (by decide +kernel)
theorem w615 : Cond.selects "TelescopeDeskModel" y_Model_sum y_Model_sum ∈ wA := in_wA 615 (by decide +kernel) (by decide +kernel)
theorem w616 : Cond.code y_Model_sum b_Model_sum 7 (some .int) ∈ wA := in_wA 616 (by decide +kernel) (by decide +kernel)
theorem ws0 : Cond.selects "TelescopeDesk" y_Desk_keepResult y_Desk_keepResult ∈ wA := in_wS 0 (by decide +kernel) (by decide +kernel)
theorem ws1 : Cond.selects "TelescopeDesk$Combiner" y_Comb_addWidened y_Comb_addWidened ∈ wA := in_wS 1 (by decide +kernel) (by decide +kernel)
theorem ws2 : Cond.selects "TelescopeDesk$Splitter" y_Split_splitPoles y_Split_splitPoles ∈ wA := in_wS 2 (by decide +kernel) (by decide +kernel)
theorem ws3 : Cond.selects "TelescopeDesk$Splitter" y_Split_expandAt y_Split_expandAt ∈ wA := in_wS 3 (by decide +kernel) (by decide +kernel)
theorem ws4 : Cond.selects "TelescopeDesk$Splitter" y_Split_divideSeries y_Split_divideSeries ∈ wA := in_wS 4 (by decide +kernel) (by decide +kernel)
theorem ws5 : Cond.selects "TelescopeDesk$Splitter" y_Split_expandedWeight y_Split_expandedWeight ∈ wA := in_wS 5 (by decide +kernel) (by decide +kernel)
theorem ws6 : Cond.selects "TelescopeDesk$Splitter" y_Split_splitWhole y_Split_splitWhole ∈ wA := in_wS 6 (by decide +kernel) (by decide +kernel)
theorem ws7 : Cond.selects "TelescopeDesk$Splitter" y_Split_setDifferenceOfPower y_Split_setDifferenceOfPower ∈ wA := in_wS 7 (by decide +kernel) (by decide +kernel)
theorem ws8 : Cond.selects "TelescopeDesk$Splitter" y_Split_gather y_Split_gather ∈ wA := in_wS 8 (by decide +kernel) (by decide +kernel)
theorem ws9 : Cond.selects "TelescopeDeskModel" y_Model_fresh y_Model_fresh ∈ wA := in_wS 9 (by decide +kernel) (by decide +kernel)
theorem ws10 : Cond.selects "TelescopeDeskModel" y_Model_clear y_Model_clear ∈ wA := in_wS 10 (by decide +kernel) (by decide +kernel)
theorem ws11 : Cond.selects "TelescopeDeskModel" y_Model_finish y_Model_finish ∈ wA := in_wS 11 (by decide +kernel) (by decide +kernel)
theorem ws12 : Cond.selects "TelescopeDeskModel" y_Model_settled y_Model_settled ∈ wA := in_wS 12 (by decide +kernel) (by decide +kernel)
theorem ws13 : Cond.selects "TelescopeDeskModel" y_Model_top y_Model_top ∈ wA := in_wS 13 (by decide +kernel) (by decide +kernel)
theorem ws14 : Cond.selects "TelescopeDeskModel" y_Model_at y_Model_at ∈ wA := in_wS 14 (by decide +kernel) (by decide +kernel)
theorem ws15 : Cond.selects "TelescopeDeskModel" y_Model_divide y_Model_divide ∈ wA := in_wS 15 (by decide +kernel) (by decide +kernel)
theorem ws16 : Cond.selects "TelescopeDeskModel" y_Model_put y_Model_put ∈ wA := in_wS 16 (by decide +kernel) (by decide +kernel)
theorem ws17 : Cond.selects "TelescopeDeskModel" y_Model_isZero y_Model_isZero ∈ wA := in_wS 17 (by decide +kernel) (by decide +kernel)
theorem ws18 : Cond.selects "TelescopeDeskModel" y_Model_load y_Model_load ∈ wA := in_wS 18 (by decide +kernel) (by decide +kernel)
theorem ws19 : Cond.selects "TelescopeDeskModel" y_Model_times y_Model_times ∈ wA := in_wS 19 (by decide +kernel) (by decide +kernel)
theorem ws20 : Cond.selects "TelescopeDeskModel" y_Model_addRow y_Model_addRow ∈ wA := in_wS 20 (by decide +kernel) (by decide +kernel)
theorem ws21 : Cond.selects "TelescopeDeskModel" y_Model_moved y_Model_moved ∈ wA := in_wS 21 (by decide +kernel) (by decide +kernel)
theorem ws22 : Cond.selects "TelescopeDeskModel" y_Model_differ y_Model_differ ∈ wA := in_wS 22 (by decide +kernel) (by decide +kernel)
theorem ws23 : Cond.selects "TelescopeDeskModel" y_Model_weigh y_Model_weigh ∈ wA := in_wS 23 (by decide +kernel) (by decide +kernel)
theorem ws24 : Cond.selects "TelescopeDeskModel" y_Model_others y_Model_others ∈ wA := in_wS 24 (by decide +kernel) (by decide +kernel)
theorem ws25 : Cond.selects "TelescopeDeskModel" y_Model_total y_Model_total ∈ wA := in_wS 25 (by decide +kernel) (by decide +kernel)
theorem ws26 : Cond.selects "TelescopeDeskModel" y_Model_solve y_Model_solve ∈ wA := in_wS 26 (by decide +kernel) (by decide +kernel)
theorem ws27 : Cond.selects "TelescopeDeskModel" y_Model_differences y_Model_differences ∈ wA := in_wS 27 (by decide +kernel) (by decide +kernel)
theorem ws28 : Cond.selects "TelescopeDeskModel" y_Model_rootOf y_Model_rootOf ∈ wA := in_wS 28 (by decide +kernel) (by decide +kernel)
theorem ws29 : Cond.selects "TelescopeDeskModel" y_Model_valueAt y_Model_valueAt ∈ wA := in_wS 29 (by decide +kernel) (by decide +kernel)
theorem uw_Poly : ∀ w ∈ u_ws R_Poly F_Poly 2, w ∈ wA := by
  intro w hw
  obtain ⟨k, hk, rfl⟩ := List.mem_map.mp hw
  have hk := List.mem_range.mp hk
  rcases (show k = 0 ∨ k = 1 by omega) with rfl | rfl
  · exact w39
  · exact w41
theorem uw_Term : ∀ w ∈ u_ws R_Term F_Term 3, w ∈ wA := by
  intro w hw
  obtain ⟨k, hk, rfl⟩ := List.mem_map.mp hw
  have hk := List.mem_range.mp hk
  rcases (show k = 0 ∨ k = 1 ∨ k = 2 by omega) with rfl | rfl | rfl
  · exact w57
  · exact w59
  · exact w61
theorem uw_Comb : ∀ w ∈ u_ws R_Comb F_Comb 2, w ∈ wA := by
  intro w hw
  obtain ⟨k, hk, rfl⟩ := List.mem_map.mp hw
  have hk := List.mem_range.mp hk
  rcases (show k = 0 ∨ k = 1 by omega) with rfl | rfl
  · exact w76
  · exact w78
theorem uw_Split : ∀ w ∈ u_ws R_Split F_Split 5, w ∈ wA := by
  intro w hw
  obtain ⟨k, hk, rfl⟩ := List.mem_map.mp hw
  have hk := List.mem_range.mp hk
  rcases (show k = 0 ∨ k = 1 ∨ k = 2 ∨ k = 3 ∨ k = 4 by omega) with rfl | rfl | rfl | rfl | rfl
  · exact w94
  · exact w96
  · exact w98
  · exact w100
  · exact w102
theorem uw_Desk : ∀ w ∈ u_ws R_Desk F_Desk 5, w ∈ wA := by
  intro w hw
  obtain ⟨k, hk, rfl⟩ := List.mem_map.mp hw
  have hk := List.mem_range.mp hk
  rcases (show k = 0 ∨ k = 1 ∨ k = 2 ∨ k = 3 ∨ k = 4 by omega) with rfl | rfl | rfl | rfl | rfl
  · exact w110
  · exact w112
  · exact w114
  · exact w116
  · exact w118
theorem uw_Model : ∀ w ∈ u_ws R_Model F_Model 10, w ∈ wA := by
  intro w hw
  obtain ⟨k, hk, rfl⟩ := List.mem_map.mp hw
  have hk := List.mem_range.mp hk
  rcases (show k = 0 ∨ k = 1 ∨ k = 2 ∨ k = 3 ∨ k = 4 ∨ k = 5 ∨ k = 6 ∨ k = 7 ∨ k = 8 ∨ k = 9 by omega) with rfl | rfl | rfl | rfl | rfl | rfl | rfl | rfl | rfl | rfl
  · exact w421
  · exact w423
  · exact w425
  · exact w427
  · exact w429
  · exact w431
  · exact w433
  · exact w435
  · exact w437
  · exact w439
theorem li_Law_9 : lkI wA "TelescopeDeskLaw" 9 y_Desk_init b_Desk_init 2 0 := ⟨w15, w13, w14, w1, rfl, ⟨by decide +kernel, by decide +kernel, by decide +kernel⟩, by decide⟩
theorem li_Desk_15 : lkI wA "TelescopeDesk" 15 y_Term_init b_Term_init 2 1 := ⟨w24, w22, w23, w2, rfl, ⟨by decide +kernel, by decide +kernel, by decide +kernel⟩, by decide⟩
theorem li_Term_11 : lkI wA "TelescopeDesk$Term" 11 y_Poly_init b_Poly_init 2 1 := ⟨w30, w28, w29, w3, rfl, ⟨by decide +kernel, by decide +kernel, by decide +kernel⟩, by decide⟩
theorem lf_Poly_9 : lkF wA clA "TelescopeDesk$Poly" 9 0 0 := ⟨R_Poly, F_Poly, 2, rfl, by decide, uw_Poly, w32⟩
theorem lg_Poly_9 : lkG wA clA "TelescopeDesk$Poly" 9 0 0 := ⟨F_Poly, 2, t_Poly, rfl, by decide, uw_Poly, w32, tk_Poly, n_Poly, rfl, rfl, fun _ => ⟨rfl, rfl⟩⟩
theorem lf_Split_97 : lkF wA clA "TelescopeDesk$Splitter" 97 0 0 := ⟨R_Poly, F_Poly, 2, rfl, by decide, uw_Poly, w33⟩
theorem lf_Desk_113 : lkF wA clA "TelescopeDesk" 113 0 0 := ⟨R_Poly, F_Poly, 2, rfl, by decide, uw_Poly, w34⟩
theorem lf_Poly_15 : lkF wA clA "TelescopeDesk$Poly" 15 0 1 := ⟨R_Poly, F_Poly, 2, rfl, by decide, uw_Poly, w35⟩
theorem lp_Poly_15 : lkP wA clA "TelescopeDesk$Poly" 15 0 1 := ⟨R_Poly, F_Poly, 2, t_Poly, rfl, by decide, uw_Poly, w35, tk_Poly, n_Poly, rfl, rfl⟩
theorem lf_Term_47 : lkF wA clA "TelescopeDesk$Term" 47 0 1 := ⟨R_Poly, F_Poly, 2, rfl, by decide, uw_Poly, w36⟩
theorem lp_Term_47 : lkP wA clA "TelescopeDesk$Term" 47 0 1 := ⟨R_Poly, F_Poly, 2, t_Poly, rfl, by decide, uw_Poly, w36, tk_Poly, n_Poly, rfl, rfl⟩
theorem lf_Split_107 : lkF wA clA "TelescopeDesk$Splitter" 107 0 1 := ⟨R_Poly, F_Poly, 2, rfl, by decide, uw_Poly, w37⟩
theorem lp_Split_107 : lkP wA clA "TelescopeDesk$Splitter" 107 0 1 := ⟨R_Poly, F_Poly, 2, t_Poly, rfl, by decide, uw_Poly, w37, tk_Poly, n_Poly, rfl, rfl⟩
theorem lf_Desk_110 : lkF wA clA "TelescopeDesk" 110 0 1 := ⟨R_Poly, F_Poly, 2, rfl, by decide, uw_Poly, w38⟩
theorem lp_Desk_110 : lkP wA clA "TelescopeDesk" 110 0 1 := ⟨R_Poly, F_Poly, 2, t_Poly, rfl, by decide, uw_Poly, w38, tk_Poly, n_Poly, rfl, rfl⟩
theorem lf_Term_14 : lkF wA clA "TelescopeDesk$Term" 14 1 0 := ⟨R_Term, F_Term, 3, rfl, by decide, uw_Term, w45⟩
theorem lg_Term_14 : lkG wA clA "TelescopeDesk$Term" 14 1 0 := ⟨F_Term, 3, t_Term, rfl, by decide, uw_Term, w45, tk_Term, n_Term, rfl, rfl, fun _ => ⟨rfl, rfl⟩⟩
theorem lf_Desk_49 : lkF wA clA "TelescopeDesk" 49 1 0 := ⟨R_Term, F_Term, 3, rfl, by decide, uw_Term, w46⟩
theorem lf_Comb_45 : lkF wA clA "TelescopeDesk$Combiner" 45 1 0 := ⟨R_Term, F_Term, 3, rfl, by decide, uw_Term, w47⟩
theorem lf_Split_59 : lkF wA clA "TelescopeDesk$Splitter" 59 1 0 := ⟨R_Term, F_Term, 3, rfl, by decide, uw_Term, w48⟩
theorem lf_Term_20 : lkF wA clA "TelescopeDesk$Term" 20 1 1 := ⟨R_Term, F_Term, 3, rfl, by decide, uw_Term, w49⟩
theorem lg_Term_20 : lkG wA clA "TelescopeDesk$Term" 20 1 1 := ⟨F_Term, 3, t_Term, rfl, by decide, uw_Term, w49, tk_Term, n_Term, rfl, rfl, fun _ => ⟨rfl, rfl⟩⟩
theorem lf_Comb_35 : lkF wA clA "TelescopeDesk$Combiner" 35 1 1 := ⟨R_Term, F_Term, 3, rfl, by decide, uw_Term, w50⟩
theorem lf_Split_70 : lkF wA clA "TelescopeDesk$Splitter" 70 1 1 := ⟨R_Term, F_Term, 3, rfl, by decide, uw_Term, w51⟩
theorem lf_Desk_73 : lkF wA clA "TelescopeDesk" 73 1 1 := ⟨R_Term, F_Term, 3, rfl, by decide, uw_Term, w52⟩
theorem lf_Term_24 : lkF wA clA "TelescopeDesk$Term" 24 1 2 := ⟨R_Term, F_Term, 3, rfl, by decide, uw_Term, w53⟩
theorem lp_Term_24 : lkP wA clA "TelescopeDesk$Term" 24 1 2 := ⟨R_Term, F_Term, 3, t_Term, rfl, by decide, uw_Term, w53, tk_Term, n_Term, rfl, rfl⟩
theorem lf_Comb_31 : lkF wA clA "TelescopeDesk$Combiner" 31 1 2 := ⟨R_Term, F_Term, 3, rfl, by decide, uw_Term, w54⟩
theorem lp_Comb_31 : lkP wA clA "TelescopeDesk$Combiner" 31 1 2 := ⟨R_Term, F_Term, 3, t_Term, rfl, by decide, uw_Term, w54, tk_Term, n_Term, rfl, rfl⟩
theorem lf_Split_49 : lkF wA clA "TelescopeDesk$Splitter" 49 1 2 := ⟨R_Term, F_Term, 3, rfl, by decide, uw_Term, w55⟩
theorem lp_Split_49 : lkP wA clA "TelescopeDesk$Splitter" 49 1 2 := ⟨R_Term, F_Term, 3, t_Term, rfl, by decide, uw_Term, w55, tk_Term, n_Term, rfl, rfl⟩
theorem lf_Desk_63 : lkF wA clA "TelescopeDesk" 63 1 2 := ⟨R_Term, F_Term, 3, rfl, by decide, uw_Term, w56⟩
theorem lp_Desk_63 : lkP wA clA "TelescopeDesk" 63 1 2 := ⟨R_Term, F_Term, 3, t_Term, rfl, by decide, uw_Term, w56, tk_Term, n_Term, rfl, rfl⟩
theorem li_Desk_27 : lkI wA "TelescopeDesk" 27 y_Comb_init b_Comb_init 1 0 := ⟨w68, w66, w67, w4, rfl, ⟨by decide +kernel, by decide +kernel, by decide +kernel⟩, by decide⟩
theorem li_Comb_11 : lkI wA "TelescopeDesk$Combiner" 11 y_Term_init b_Term_init 2 1 := ⟨w24, w71, w23, w2, rfl, ⟨by decide +kernel, by decide +kernel, by decide +kernel⟩, by decide⟩
theorem li_Comb_22 : lkI wA "TelescopeDesk$Combiner" 22 y_Poly_init b_Poly_init 2 1 := ⟨w30, w73, w29, w3, rfl, ⟨by decide +kernel, by decide +kernel, by decide +kernel⟩, by decide⟩
theorem lf_Comb_14 : lkF wA clA "TelescopeDesk$Combiner" 14 2 0 := ⟨R_Comb, F_Comb, 2, rfl, by decide, uw_Comb, w74⟩
theorem lg_Comb_14 : lkG wA clA "TelescopeDesk$Combiner" 14 2 0 := ⟨F_Comb, 2, t_Comb, rfl, by decide, uw_Comb, w74, tk_Comb, n_Comb, rfl, rfl, fun _ => ⟨rfl, rfl⟩⟩
theorem lf_Comb_23 : lkF wA clA "TelescopeDesk$Combiner" 23 2 1 := ⟨R_Comb, F_Comb, 2, rfl, by decide, uw_Comb, w75⟩
theorem lg_Comb_23 : lkG wA clA "TelescopeDesk$Combiner" 23 2 1 := ⟨F_Comb, 2, t_Comb, rfl, by decide, uw_Comb, w75, tk_Comb, n_Comb, rfl, rfl, fun _ => ⟨rfl, rfl⟩⟩
theorem li_Desk_34 : lkI wA "TelescopeDesk" 34 y_Split_init b_Split_init 1 0 := ⟨w85, w83, w84, w5, rfl, ⟨by decide +kernel, by decide +kernel, by decide +kernel⟩, by decide⟩
theorem li_Split_20 : lkI wA "TelescopeDesk$Splitter" 20 y_Poly_init b_Poly_init 2 1 := ⟨w30, w88, w29, w3, rfl, ⟨by decide +kernel, by decide +kernel, by decide +kernel⟩, by decide⟩
theorem lf_Split_9 : lkF wA clA "TelescopeDesk$Splitter" 9 3 0 := ⟨R_Split, F_Split, 5, rfl, by decide, uw_Split, w89⟩
theorem lg_Split_9 : lkG wA clA "TelescopeDesk$Splitter" 9 3 0 := ⟨F_Split, 5, t_Split, rfl, by decide, uw_Split, w89, tk_Split, n_Split, rfl, rfl, fun _ => ⟨rfl, rfl⟩⟩
theorem lf_Split_15 : lkF wA clA "TelescopeDesk$Splitter" 15 3 1 := ⟨R_Split, F_Split, 5, rfl, by decide, uw_Split, w90⟩
theorem lg_Split_15 : lkG wA clA "TelescopeDesk$Splitter" 15 3 1 := ⟨F_Split, 5, t_Split, rfl, by decide, uw_Split, w90, tk_Split, n_Split, rfl, rfl, fun _ => ⟨rfl, rfl⟩⟩
theorem lf_Split_23 : lkF wA clA "TelescopeDesk$Splitter" 23 3 2 := ⟨R_Split, F_Split, 5, rfl, by decide, uw_Split, w91⟩
theorem lg_Split_23 : lkG wA clA "TelescopeDesk$Splitter" 23 3 2 := ⟨F_Split, 5, t_Split, rfl, by decide, uw_Split, w91, tk_Split, n_Split, rfl, rfl, fun _ => ⟨rfl, rfl⟩⟩
theorem lf_Split_27 : lkF wA clA "TelescopeDesk$Splitter" 27 3 3 := ⟨R_Split, F_Split, 5, rfl, by decide, uw_Split, w92⟩
theorem lg_Split_27 : lkG wA clA "TelescopeDesk$Splitter" 27 3 3 := ⟨F_Split, 5, t_Split, rfl, by decide, uw_Split, w92, tk_Split, n_Split, rfl, rfl, fun _ => ⟨rfl, rfl⟩⟩
theorem lf_Split_30 : lkF wA clA "TelescopeDesk$Splitter" 30 3 4 := ⟨R_Split, F_Split, 5, rfl, by decide, uw_Split, w93⟩
theorem lg_Split_30 : lkG wA clA "TelescopeDesk$Splitter" 30 3 4 := ⟨F_Split, 5, t_Split, rfl, by decide, uw_Split, w93, tk_Split, n_Split, rfl, rfl, fun _ => ⟨rfl, rfl⟩⟩
theorem lf_Desk_11 : lkF wA clA "TelescopeDesk" 11 4 0 := ⟨R_Desk, F_Desk, 5, rfl, by decide, uw_Desk, w105⟩
theorem lg_Desk_11 : lkG wA clA "TelescopeDesk" 11 4 0 := ⟨F_Desk, 5, t_Desk, rfl, by decide, uw_Desk, w105, tk_Desk, n_Desk, rfl, rfl, fun _ => ⟨rfl, rfl⟩⟩
theorem lf_Desk_18 : lkF wA clA "TelescopeDesk" 18 4 1 := ⟨R_Desk, F_Desk, 5, rfl, by decide, uw_Desk, w106⟩
theorem lg_Desk_18 : lkG wA clA "TelescopeDesk" 18 4 1 := ⟨F_Desk, 5, t_Desk, rfl, by decide, uw_Desk, w106, tk_Desk, n_Desk, rfl, rfl, fun _ => ⟨rfl, rfl⟩⟩
theorem lf_Desk_22 : lkF wA clA "TelescopeDesk" 22 4 2 := ⟨R_Desk, F_Desk, 5, rfl, by decide, uw_Desk, w107⟩
theorem lg_Desk_22 : lkG wA clA "TelescopeDesk" 22 4 2 := ⟨F_Desk, 5, t_Desk, rfl, by decide, uw_Desk, w107, tk_Desk, n_Desk, rfl, rfl, fun _ => ⟨rfl, rfl⟩⟩
theorem lf_Desk_28 : lkF wA clA "TelescopeDesk" 28 4 3 := ⟨R_Desk, F_Desk, 5, rfl, by decide, uw_Desk, w108⟩
theorem lg_Desk_28 : lkG wA clA "TelescopeDesk" 28 4 3 := ⟨F_Desk, 5, t_Desk, rfl, by decide, uw_Desk, w108, tk_Desk, n_Desk, rfl, rfl, fun _ => ⟨rfl, rfl⟩⟩
theorem lf_Desk_35 : lkF wA clA "TelescopeDesk" 35 4 4 := ⟨R_Desk, F_Desk, 5, rfl, by decide, uw_Desk, w109⟩
theorem lg_Desk_35 : lkG wA clA "TelescopeDesk" 35 4 4 := ⟨F_Desk, 5, t_Desk, rfl, by decide, uw_Desk, w109, tk_Desk, n_Desk, rfl, rfl, fun _ => ⟨rfl, rfl⟩⟩
theorem lv_Law_13 : lkV wA clA "TelescopeDeskLaw" 13 4 y_Desk_constant b_Desk_constant 3 (some .int) 2 := ⟨w124, w121, w122, w123, w1, ⟨by decide +kernel, by decide +kernel, by decide +kernel⟩, by decide, (R_Desk, F_Desk, 5), rfl, rfl⟩
theorem ls_Desk_39 : lkS wA "TelescopeDesk" 39 y_Desk_isSlot b_Desk_isSlot 1 (some .boolean) 1 := ⟨w127, w125, w126, w1, ⟨by decide +kernel, by decide +kernel, by decide +kernel⟩, by decide⟩
theorem ls_Desk_43 : lkS wA "TelescopeDesk" 43 y_Desk_isResidue b_Desk_isResidue 1 (some .boolean) 1 := ⟨w130, w128, w129, w1, ⟨by decide +kernel, by decide +kernel, by decide +kernel⟩, by decide⟩
theorem lv_Desk_46 : lkV wA clA "TelescopeDesk" 46 1 y_Term_clear b_Term_clear 1 none 0 := ⟨w134, w131, w132, w133, w2, ⟨by decide +kernel, by decide +kernel, by decide +kernel⟩, by decide, (R_Term, F_Term, 3), rfl, rfl⟩
theorem lv_Term_28 : lkV wA clA "TelescopeDesk$Term" 28 0 y_Poly_clear b_Poly_clear 1 none 0 := ⟨w138, w135, w136, w137, w3, ⟨by decide +kernel, by decide +kernel, by decide +kernel⟩, by decide, (R_Poly, F_Poly, 2), rfl, rfl⟩
theorem ls_Poly_19 : lkS wA "TelescopeDesk$Poly" 19 y_Arr_fill b_Arr_fill 4 none 2 := ⟨w141, w139, w140, w7, ⟨by decide +kernel, by decide +kernel, by decide +kernel⟩, by decide⟩
theorem ls_Term_31 : lkS wA "TelescopeDesk$Term" 31 y_Arr_fill b_Arr_fill 4 none 2 := ⟨w141, w142, w140, w7, ⟨by decide +kernel, by decide +kernel, by decide +kernel⟩, by decide⟩
theorem lv_Desk_53 : lkV wA clA "TelescopeDesk" 53 0 y_Poly_setLinear b_Poly_setLinear 3 none 2 := ⟨w146, w143, w144, w145, w3, ⟨by decide +kernel, by decide +kernel, by decide +kernel⟩, by decide, (R_Poly, F_Poly, 2), rfl, rfl⟩
theorem lv_Poly_25 : lkV wA clA "TelescopeDesk$Poly" 25 0 y_Poly_clear b_Poly_clear 1 none 0 := ⟨w138, w147, w136, w137, w3, ⟨by decide +kernel, by decide +kernel, by decide +kernel⟩, by decide, (R_Poly, F_Poly, 2), rfl, rfl⟩
theorem lv_Poly_28 : lkV wA clA "TelescopeDesk$Poly" 28 0 y_Poly_trim b_Poly_trim 1 none 0 := ⟨w151, w148, w149, w150, w3, ⟨by decide +kernel, by decide +kernel, by decide +kernel⟩, by decide, (R_Poly, F_Poly, 2), rfl, rfl⟩
theorem lv_Desk_59 : lkV wA clA "TelescopeDesk" 59 4 y_Desk_keepResult b_Desk_keepResult 2 (some .int) 1 := ⟨w155, w152, w154, ws0, w1, ⟨by decide +kernel, by decide +kernel, by decide +kernel⟩, by decide, (R_Desk, F_Desk, 5), rfl, rfl⟩
theorem lv_Desk_100 : lkV wA clA "TelescopeDesk" 100 1 y_Term_isOver b_Term_isOver 2 (some .boolean) 0 := ⟨w159, w156, w157, w158, w2, ⟨by decide +kernel, by decide +kernel, by decide +kernel⟩, by decide, (R_Term, F_Term, 3), rfl, rfl⟩
theorem lv_Desk_103 : lkV wA clA "TelescopeDesk" 103 1 y_Term_copyFrom b_Term_copyFrom 2 none 1 := ⟨w163, w160, w161, w162, w2, ⟨by decide +kernel, by decide +kernel, by decide +kernel⟩, by decide, (R_Term, F_Term, 3), rfl, rfl⟩
theorem lv_Term_37 : lkV wA clA "TelescopeDesk$Term" 37 0 y_Poly_copyFrom b_Poly_copyFrom 3 none 1 := ⟨w167, w164, w165, w166, w3, ⟨by decide +kernel, by decide +kernel, by decide +kernel⟩, by decide, (R_Poly, F_Poly, 2), rfl, rfl⟩
theorem ly_Term_41 : lkY wA "TelescopeDesk$Term" 41 := ⟨w168, w170, w169, w8⟩
theorem lv_Law_18 : lkV wA clA "TelescopeDeskLaw" 18 4 y_Desk_linear b_Desk_linear 4 (some .int) 3 := ⟨w174, w171, w172, w173, w1, ⟨by decide +kernel, by decide +kernel, by decide +kernel⟩, by decide, (R_Desk, F_Desk, 5), rfl, rfl⟩
theorem lv_Law_23 : lkV wA clA "TelescopeDeskLaw" 23 4 y_Desk_power b_Desk_power 3 (some .int) 2 := ⟨w178, w175, w176, w177, w1, ⟨by decide +kernel, by decide +kernel, by decide +kernel⟩, by decide, (R_Desk, F_Desk, 5), rfl, rfl⟩
theorem lv_Law_27 : lkV wA clA "TelescopeDeskLaw" 27 4 y_Desk_pole b_Desk_pole 4 (some .int) 3 := ⟨w182, w179, w180, w181, w1, ⟨by decide +kernel, by decide +kernel, by decide +kernel⟩, by decide, (R_Desk, F_Desk, 5), rfl, rfl⟩
theorem ls_Desk_67 : lkS wA "TelescopeDesk" 67 y_Desk_isPole b_Desk_isPole 1 (some .boolean) 1 := ⟨w185, w183, w184, w1, ⟨by decide +kernel, by decide +kernel, by decide +kernel⟩, by decide⟩
theorem ls_Desk_70 : lkS wA "TelescopeDesk" 70 y_Desk_isPositiveExponent b_Desk_isPositiveExponent 1 (some .boolean) 1 := ⟨w188, w186, w187, w1, ⟨by decide +kernel, by decide +kernel, by decide +kernel⟩, by decide⟩
theorem lv_Law_31 : lkV wA clA "TelescopeDeskLaw" 31 4 y_Desk_add b_Desk_add 4 (some .int) 3 := ⟨w192, w189, w190, w191, w1, ⟨by decide +kernel, by decide +kernel, by decide +kernel⟩, by decide, (R_Desk, F_Desk, 5), rfl, rfl⟩
theorem lv_Desk_77 : lkV wA clA "TelescopeDesk" 77 1 y_Term_isZero b_Term_isZero 1 (some .boolean) 0 := ⟨w196, w193, w194, w195, w2, ⟨by decide +kernel, by decide +kernel, by decide +kernel⟩, by decide, (R_Term, F_Term, 3), rfl, rfl⟩
theorem lv_Desk_81 : lkV wA clA "TelescopeDesk" 81 2 y_Comb_combine b_Comb_combine 6 none 4 := ⟨w200, w197, w198, w199, w4, ⟨by decide +kernel, by decide +kernel, by decide +kernel⟩, by decide, (R_Comb, F_Comb, 2), rfl, rfl⟩
theorem lv_Comb_27 : lkV wA clA "TelescopeDesk$Combiner" 27 1 y_Term_isZero b_Term_isZero 1 (some .boolean) 0 := ⟨w196, w201, w194, w195, w2, ⟨by decide +kernel, by decide +kernel, by decide +kernel⟩, by decide, (R_Term, F_Term, 3), rfl, rfl⟩
theorem lm_Comb_39 : lkM wA "TelescopeDesk$Combiner" 39 y_Math_max b_Math_max 2 := ⟨w202, w203, w9, w204⟩
theorem lv_Comb_48 : lkV wA clA "TelescopeDesk$Combiner" 48 0 y_Poly_clear b_Poly_clear 1 none 0 := ⟨w138, w205, w136, w137, w3, ⟨by decide +kernel, by decide +kernel, by decide +kernel⟩, by decide, (R_Poly, F_Poly, 2), rfl, rfl⟩
theorem lv_Comb_51 : lkV wA clA "TelescopeDesk$Combiner" 51 2 y_Comb_addWidened b_Comb_addWidened 5 none 3 := ⟨w209, w206, w208, ws1, w4, ⟨by decide +kernel, by decide +kernel, by decide +kernel⟩, by decide, (R_Comb, F_Comb, 2), rfl, rfl⟩
theorem lv_Comb_66 : lkV wA clA "TelescopeDesk$Combiner" 66 0 y_Poly_copyFrom b_Poly_copyFrom 3 none 1 := ⟨w167, w210, w165, w166, w3, ⟨by decide +kernel, by decide +kernel, by decide +kernel⟩, by decide, (R_Poly, F_Poly, 2), rfl, rfl⟩
theorem lv_Comb_70 : lkV wA clA "TelescopeDesk$Combiner" 70 0 y_Poly_multiplyBy b_Poly_multiplyBy 5 none 2 := ⟨w214, w211, w212, w213, w3, ⟨by decide +kernel, by decide +kernel, by decide +kernel⟩, by decide, (R_Poly, F_Poly, 2), rfl, rfl⟩
theorem lm_Poly_31 : lkM wA "TelescopeDesk$Poly" 31 y_Math_min b_Math_min 2 := ⟨w215, w216, w9, w217⟩
theorem lv_Comb_74 : lkV wA clA "TelescopeDesk$Combiner" 74 0 y_Poly_addScaled b_Poly_addScaled 5 none 2 := ⟨w221, w218, w219, w220, w3, ⟨by decide +kernel, by decide +kernel, by decide +kernel⟩, by decide, (R_Poly, F_Poly, 2), rfl, rfl⟩
theorem lv_Comb_55 : lkV wA clA "TelescopeDesk$Combiner" 55 1 y_Term_normalise b_Term_normalise 3 none 0 := ⟨w225, w222, w223, w224, w2, ⟨by decide +kernel, by decide +kernel, by decide +kernel⟩, by decide, (R_Term, F_Term, 3), rfl, rfl⟩
theorem lv_Term_75 : lkV wA clA "TelescopeDesk$Term" 75 1 y_Term_isZero b_Term_isZero 1 (some .boolean) 0 := ⟨w196, w226, w194, w195, w2, ⟨by decide +kernel, by decide +kernel, by decide +kernel⟩, by decide, (R_Term, F_Term, 3), rfl, rfl⟩
theorem lv_Term_79 : lkV wA clA "TelescopeDesk$Term" 79 1 y_Term_clear b_Term_clear 1 none 0 := ⟨w134, w227, w132, w133, w2, ⟨by decide +kernel, by decide +kernel, by decide +kernel⟩, by decide, (R_Term, F_Term, 3), rfl, rfl⟩
theorem ls_Term_54 : lkS wA "TelescopeDesk$Term" 54 y_Res_of b_Res_of 1 (some .int) 1 := ⟨w230, w228, w229, w10, ⟨by decide +kernel, by decide +kernel, by decide +kernel⟩, by decide⟩
theorem ls_Res_9 : lkS wA "TelescopeDesk$Residues" 9 y_Math_floorMod b_Math_floorMod 3 (some .int) 2 := ⟨w233, w231, w232, w9, ⟨by decide +kernel, by decide +kernel, by decide +kernel⟩, by decide⟩
theorem lv_Term_72 : lkV wA clA "TelescopeDesk$Term" 72 0 y_Poly_at b_Poly_at 4 (some .int) 1 := ⟨w237, w234, w235, w236, w3, ⟨by decide +kernel, by decide +kernel, by decide +kernel⟩, by decide, (R_Poly, F_Poly, 2), rfl, rfl⟩
theorem lv_Term_80 : lkV wA clA "TelescopeDesk$Term" 80 0 y_Poly_divideBy b_Poly_divideBy 6 (some .int) 1 := ⟨w241, w238, w239, w240, w3, ⟨by decide +kernel, by decide +kernel, by decide +kernel⟩, by decide, (R_Poly, F_Poly, 2), rfl, rfl⟩
theorem ls_Poly_37 : lkS wA "TelescopeDesk$Poly" 37 y_Res_of b_Res_of 1 (some .int) 1 := ⟨w230, w242, w229, w10, ⟨by decide +kernel, by decide +kernel, by decide +kernel⟩, by decide⟩
theorem lv_Law_35 : lkV wA clA "TelescopeDeskLaw" 35 4 y_Desk_multiply b_Desk_multiply 4 (some .int) 3 := ⟨w246, w243, w244, w245, w1, ⟨by decide +kernel, by decide +kernel, by decide +kernel⟩, by decide, (R_Desk, F_Desk, 5), rfl, rfl⟩
theorem lv_Desk_85 : lkV wA clA "TelescopeDesk" 85 1 y_Term_becomeProduct b_Term_becomeProduct 4 none 2 := ⟨w250, w247, w248, w249, w2, ⟨by decide +kernel, by decide +kernel, by decide +kernel⟩, by decide, (R_Term, F_Term, 3), rfl, rfl⟩
theorem lv_Term_83 : lkV wA clA "TelescopeDesk$Term" 83 0 y_Poly_becomeProduct b_Poly_becomeProduct 5 none 2 := ⟨w254, w251, w252, w253, w3, ⟨by decide +kernel, by decide +kernel, by decide +kernel⟩, by decide, (R_Poly, F_Poly, 2), rfl, rfl⟩
theorem lv_Term_87 : lkV wA clA "TelescopeDesk$Term" 87 1 y_Term_normalise b_Term_normalise 3 none 0 := ⟨w225, w255, w223, w224, w2, ⟨by decide +kernel, by decide +kernel, by decide +kernel⟩, by decide, (R_Term, F_Term, 3), rfl, rfl⟩
theorem lv_Law_39 : lkV wA clA "TelescopeDeskLaw" 39 4 y_Desk_shift b_Desk_shift 3 (some .int) 2 := ⟨w259, w256, w257, w258, w1, ⟨by decide +kernel, by decide +kernel, by decide +kernel⟩, by decide, (R_Desk, F_Desk, 5), rfl, rfl⟩
theorem lv_Desk_89 : lkV wA clA "TelescopeDesk" 89 1 y_Term_becomeNext b_Term_becomeNext 2 none 1 := ⟨w263, w260, w261, w262, w2, ⟨by decide +kernel, by decide +kernel, by decide +kernel⟩, by decide, (R_Term, F_Term, 3), rfl, rfl⟩
theorem lv_Term_90 : lkV wA clA "TelescopeDesk$Term" 90 0 y_Poly_moveOn b_Poly_moveOn 3 none 0 := ⟨w267, w264, w265, w266, w3, ⟨by decide +kernel, by decide +kernel, by decide +kernel⟩, by decide, (R_Poly, F_Poly, 2), rfl, rfl⟩
theorem lv_Term_93 : lkV wA clA "TelescopeDesk$Term" 93 0 y_Poly_scale b_Poly_scale 3 none 1 := ⟨w271, w268, w269, w270, w3, ⟨by decide +kernel, by decide +kernel, by decide +kernel⟩, by decide, (R_Poly, F_Poly, 2), rfl, rfl⟩
theorem lv_Law_43 : lkV wA clA "TelescopeDeskLaw" 43 4 y_Desk_difference b_Desk_difference 3 (some .int) 2 := ⟨w275, w272, w273, w274, w1, ⟨by decide +kernel, by decide +kernel, by decide +kernel⟩, by decide, (R_Desk, F_Desk, 5), rfl, rfl⟩
theorem lv_Desk_93 : lkV wA clA "TelescopeDesk" 93 2 y_Comb_subtractFromNext b_Comb_subtractFromNext 3 none 2 := ⟨w279, w276, w277, w278, w4, ⟨by decide +kernel, by decide +kernel, by decide +kernel⟩, by decide, (R_Comb, F_Comb, 2), rfl, rfl⟩
theorem lv_Comb_58 : lkV wA clA "TelescopeDesk$Combiner" 58 1 y_Term_becomeNext b_Term_becomeNext 2 none 1 := ⟨w263, w280, w261, w262, w2, ⟨by decide +kernel, by decide +kernel, by decide +kernel⟩, by decide, (R_Term, F_Term, 3), rfl, rfl⟩
theorem lv_Comb_62 : lkV wA clA "TelescopeDesk$Combiner" 62 2 y_Comb_combine b_Comb_combine 6 none 4 := ⟨w200, w281, w198, w199, w4, ⟨by decide +kernel, by decide +kernel, by decide +kernel⟩, by decide, (R_Comb, F_Comb, 2), rfl, rfl⟩
theorem lv_Law_47 : lkV wA clA "TelescopeDeskLaw" 47 4 y_Desk_telescope b_Desk_telescope 4 (some .int) 3 := ⟨w285, w282, w283, w284, w1, ⟨by decide +kernel, by decide +kernel, by decide +kernel⟩, by decide, (R_Desk, F_Desk, 5), rfl, rfl⟩
theorem lv_Desk_96 : lkV wA clA "TelescopeDesk" 96 3 y_Split_split b_Split_split 4 none 3 := ⟨w289, w286, w287, w288, w5, ⟨by decide +kernel, by decide +kernel, by decide +kernel⟩, by decide, (R_Split, F_Split, 5), rfl, rfl⟩
theorem lv_Split_41 : lkV wA clA "TelescopeDesk$Splitter" 41 3 y_Split_splitPoles b_Split_splitPoles 7 none 2 := ⟨w293, w290, w292, ws2, w5, ⟨by decide +kernel, by decide +kernel, by decide +kernel⟩, by decide, (R_Split, F_Split, 5), rfl, rfl⟩
theorem ls_Split_81 : lkS wA "TelescopeDesk$Splitter" 81 y_Res_invert b_Res_invert 1 (some .int) 1 := ⟨w296, w294, w295, w10, ⟨by decide +kernel, by decide +kernel, by decide +kernel⟩, by decide⟩
theorem ls_Res_15 : lkS wA "TelescopeDesk$Residues" 15 y_Res_raise b_Res_raise 5 (some .int) 2 := ⟨w299, w297, w298, w10, ⟨by decide +kernel, by decide +kernel, by decide +kernel⟩, by decide⟩
theorem lv_Split_84 : lkV wA clA "TelescopeDesk$Splitter" 84 1 y_Term_clear b_Term_clear 1 none 0 := ⟨w134, w300, w132, w133, w2, ⟨by decide +kernel, by decide +kernel, by decide +kernel⟩, by decide, (R_Term, F_Term, 3), rfl, rfl⟩
theorem ls_Split_87 : lkS wA "TelescopeDesk$Splitter" 87 y_Arr_fill b_Arr_fill 4 none 2 := ⟨w141, w301, w140, w7, ⟨by decide +kernel, by decide +kernel, by decide +kernel⟩, by decide⟩
theorem lv_Split_33 : lkV wA clA "TelescopeDesk$Splitter" 33 3 y_Split_expandAt b_Split_expandAt 5 none 2 := ⟨w305, w302, w304, ws3, w5, ⟨by decide +kernel, by decide +kernel, by decide +kernel⟩, by decide, (R_Split, F_Split, 5), rfl, rfl⟩
theorem lv_Split_62 : lkV wA clA "TelescopeDesk$Splitter" 62 0 y_Poly_copyFrom b_Poly_copyFrom 3 none 1 := ⟨w167, w306, w165, w166, w3, ⟨by decide +kernel, by decide +kernel, by decide +kernel⟩, by decide, (R_Poly, F_Poly, 2), rfl, rfl⟩
theorem lv_Split_66 : lkV wA clA "TelescopeDesk$Splitter" 66 0 y_Poly_divideBy b_Poly_divideBy 6 (some .int) 1 := ⟨w241, w307, w239, w240, w3, ⟨by decide +kernel, by decide +kernel, by decide +kernel⟩, by decide, (R_Poly, F_Poly, 2), rfl, rfl⟩
theorem ls_Split_73 : lkS wA "TelescopeDesk$Splitter" 73 y_Res_of b_Res_of 1 (some .int) 1 := ⟨w230, w308, w229, w10, ⟨by decide +kernel, by decide +kernel, by decide +kernel⟩, by decide⟩
theorem lv_Split_78 : lkV wA clA "TelescopeDesk$Splitter" 78 3 y_Split_divideSeries b_Split_divideSeries 5 none 1 := ⟨w312, w309, w311, ws4, w5, ⟨by decide +kernel, by decide +kernel, by decide +kernel⟩, by decide, (R_Split, F_Split, 5), rfl, rfl⟩
theorem lv_Split_37 : lkV wA clA "TelescopeDesk$Splitter" 37 3 y_Split_expandedWeight b_Split_expandedWeight 5 (some .int) 3 := ⟨w316, w313, w315, ws5, w5, ⟨by decide +kernel, by decide +kernel, by decide +kernel⟩, by decide, (R_Split, F_Split, 5), rfl, rfl⟩
theorem ls_Split_93 : lkS wA "TelescopeDesk$Splitter" 93 y_Split_partIndex b_Split_partIndex 2 (some .int) 2 := ⟨w319, w317, w318, w5, ⟨by decide +kernel, by decide +kernel, by decide +kernel⟩, by decide⟩
theorem lv_Split_100 : lkV wA clA "TelescopeDesk$Splitter" 100 0 y_Poly_trim b_Poly_trim 1 none 0 := ⟨w151, w320, w149, w150, w3, ⟨by decide +kernel, by decide +kernel, by decide +kernel⟩, by decide, (R_Poly, F_Poly, 2), rfl, rfl⟩
theorem lv_Split_103 : lkV wA clA "TelescopeDesk$Splitter" 103 1 y_Term_normalise b_Term_normalise 3 none 0 := ⟨w225, w321, w223, w224, w2, ⟨by decide +kernel, by decide +kernel, by decide +kernel⟩, by decide, (R_Term, F_Term, 3), rfl, rfl⟩
theorem lv_Split_45 : lkV wA clA "TelescopeDesk$Splitter" 45 3 y_Split_splitWhole b_Split_splitWhole 5 none 1 := ⟨w325, w322, w324, ws6, w5, ⟨by decide +kernel, by decide +kernel, by decide +kernel⟩, by decide, (R_Split, F_Split, 5), rfl, rfl⟩
theorem lv_Split_106 : lkV wA clA "TelescopeDesk$Splitter" 106 0 y_Poly_clear b_Poly_clear 1 none 0 := ⟨w138, w326, w136, w137, w3, ⟨by decide +kernel, by decide +kernel, by decide +kernel⟩, by decide, (R_Poly, F_Poly, 2), rfl, rfl⟩
theorem lv_Split_110 : lkV wA clA "TelescopeDesk$Splitter" 110 3 y_Split_setDifferenceOfPower b_Split_setDifferenceOfPower 3 none 2 := ⟨w330, w327, w329, ws7, w5, ⟨by decide +kernel, by decide +kernel, by decide +kernel⟩, by decide, (R_Split, F_Split, 5), rfl, rfl⟩
theorem lv_Split_118 : lkV wA clA "TelescopeDesk$Splitter" 118 0 y_Poly_setLinear b_Poly_setLinear 3 none 2 := ⟨w146, w331, w144, w145, w3, ⟨by decide +kernel, by decide +kernel, by decide +kernel⟩, by decide, (R_Poly, F_Poly, 2), rfl, rfl⟩
theorem lv_Split_121 : lkV wA clA "TelescopeDesk$Splitter" 121 0 y_Poly_multiplyBy b_Poly_multiplyBy 5 none 2 := ⟨w214, w332, w212, w213, w3, ⟨by decide +kernel, by decide +kernel, by decide +kernel⟩, by decide, (R_Poly, F_Poly, 2), rfl, rfl⟩
theorem lv_Split_114 : lkV wA clA "TelescopeDesk$Splitter" 114 0 y_Poly_addScaled b_Poly_addScaled 5 none 2 := ⟨w221, w333, w219, w220, w3, ⟨by decide +kernel, by decide +kernel, by decide +kernel⟩, by decide, (R_Poly, F_Poly, 2), rfl, rfl⟩
theorem lv_Split_55 : lkV wA clA "TelescopeDesk$Splitter" 55 3 y_Split_gather b_Split_gather 5 none 2 := ⟨w337, w334, w336, ws8, w5, ⟨by decide +kernel, by decide +kernel, by decide +kernel⟩, by decide, (R_Split, F_Split, 5), rfl, rfl⟩
theorem ls_Split_124 : lkS wA "TelescopeDesk$Splitter" 124 y_Split_multiplyByPoles b_Split_multiplyByPoles 5 none 4 := ⟨w340, w338, w339, w5, ⟨by decide +kernel, by decide +kernel, by decide +kernel⟩, by decide⟩
theorem lv_Law_51 : lkV wA clA "TelescopeDeskLaw" 51 4 y_Desk_check b_Desk_check 3 (some .boolean) 2 := ⟨w344, w341, w342, w343, w1, ⟨by decide +kernel, by decide +kernel, by decide +kernel⟩, by decide, (R_Desk, F_Desk, 5), rfl, rfl⟩
theorem lv_Desk_106 : lkV wA clA "TelescopeDesk" 106 1 y_Term_matches b_Term_matches 3 (some .boolean) 1 := ⟨w348, w345, w346, w347, w2, ⟨by decide +kernel, by decide +kernel, by decide +kernel⟩, by decide, (R_Term, F_Term, 3), rfl, rfl⟩
theorem lv_Term_50 : lkV wA clA "TelescopeDesk$Term" 50 0 y_Poly_matches b_Poly_matches 3 (some .boolean) 1 := ⟨w352, w349, w350, w351, w3, ⟨by decide +kernel, by decide +kernel, by decide +kernel⟩, by decide, (R_Poly, F_Poly, 2), rfl, rfl⟩
theorem lv_Law_56 : lkV wA clA "TelescopeDeskLaw" 56 4 y_Desk_same b_Desk_same 3 (some .boolean) 2 := ⟨w356, w353, w354, w355, w1, ⟨by decide +kernel, by decide +kernel, by decide +kernel⟩, by decide, (R_Desk, F_Desk, 5), rfl, rfl⟩
theorem lv_Law_60 : lkV wA clA "TelescopeDeskLaw" 60 4 y_Desk_ratio b_Desk_ratio 2 (some .int) 1 := ⟨w360, w357, w358, w359, w1, ⟨by decide +kernel, by decide +kernel, by decide +kernel⟩, by decide, (R_Desk, F_Desk, 5), rfl, rfl⟩
theorem lv_Law_65 : lkV wA clA "TelescopeDeskLaw" 65 4 y_Desk_degree b_Desk_degree 2 (some .int) 1 := ⟨w364, w361, w362, w363, w1, ⟨by decide +kernel, by decide +kernel, by decide +kernel⟩, by decide, (R_Desk, F_Desk, 5), rfl, rfl⟩
theorem lv_Law_69 : lkV wA clA "TelescopeDeskLaw" 69 4 y_Desk_coefficient b_Desk_coefficient 3 (some .int) 2 := ⟨w368, w365, w366, w367, w1, ⟨by decide +kernel, by decide +kernel, by decide +kernel⟩, by decide, (R_Desk, F_Desk, 5), rfl, rfl⟩
theorem lv_Law_73 : lkV wA clA "TelescopeDeskLaw" 73 4 y_Desk_exponent b_Desk_exponent 3 (some .int) 2 := ⟨w372, w369, w370, w371, w1, ⟨by decide +kernel, by decide +kernel, by decide +kernel⟩, by decide, (R_Desk, F_Desk, 5), rfl, rfl⟩
theorem lv_Law_77 : lkV wA clA "TelescopeDeskLaw" 77 4 y_Desk_weight b_Desk_weight 4 (some .int) 3 := ⟨w376, w373, w374, w375, w1, ⟨by decide +kernel, by decide +kernel, by decide +kernel⟩, by decide, (R_Desk, F_Desk, 5), rfl, rfl⟩
theorem lv_Desk_116 : lkV wA clA "TelescopeDesk" 116 3 y_Split_weightOf b_Split_weightOf 4 (some .int) 3 := ⟨w380, w377, w378, w379, w5, ⟨by decide +kernel, by decide +kernel, by decide +kernel⟩, by decide, (R_Split, F_Split, 5), rfl, rfl⟩
theorem lv_Law_81 : lkV wA clA "TelescopeDeskLaw" 81 4 y_Desk_value b_Desk_value 3 (some .int) 2 := ⟨w384, w381, w382, w383, w1, ⟨by decide +kernel, by decide +kernel, by decide +kernel⟩, by decide, (R_Desk, F_Desk, 5), rfl, rfl⟩
theorem ls_Desk_120 : lkS wA "TelescopeDesk" 120 y_Desk_isPlace b_Desk_isPlace 1 (some .boolean) 1 := ⟨w387, w385, w386, w1, ⟨by decide +kernel, by decide +kernel, by decide +kernel⟩, by decide⟩
theorem lv_Desk_123 : lkV wA clA "TelescopeDesk" 123 1 y_Term_isDefinedAt b_Term_isDefinedAt 3 (some .boolean) 1 := ⟨w391, w388, w389, w390, w2, ⟨by decide +kernel, by decide +kernel, by decide +kernel⟩, by decide, (R_Term, F_Term, 3), rfl, rfl⟩
theorem lv_Desk_126 : lkV wA clA "TelescopeDesk" 126 1 y_Term_at b_Term_at 5 (some .int) 1 := ⟨w395, w392, w393, w394, w2, ⟨by decide +kernel, by decide +kernel, by decide +kernel⟩, by decide, (R_Term, F_Term, 3), rfl, rfl⟩
theorem ls_Term_60 : lkS wA "TelescopeDesk$Term" 60 y_Res_raise b_Res_raise 5 (some .int) 2 := ⟨w299, w396, w298, w10, ⟨by decide +kernel, by decide +kernel, by decide +kernel⟩, by decide⟩
theorem ls_Term_64 : lkS wA "TelescopeDesk$Term" 64 y_Res_invert b_Res_invert 1 (some .int) 1 := ⟨w296, w397, w295, w10, ⟨by decide +kernel, by decide +kernel, by decide +kernel⟩, by decide⟩
theorem lm_Term_67 : lkM wA "TelescopeDesk$Term" 67 y_Math_abs b_Math_abs 1 := ⟨w398, w399, w9, w400⟩
theorem lv_Law_85 : lkV wA clA "TelescopeDeskLaw" 85 4 y_Desk_sum b_Desk_sum 6 (some .int) 3 := ⟨w404, w401, w402, w403, w1, ⟨by decide +kernel, by decide +kernel, by decide +kernel⟩, by decide, (R_Desk, F_Desk, 5), rfl, rfl⟩
theorem li_Law_12 : lkI wA "TelescopeDeskLaw" 12 y_Model_init b_Model_init 2 0 := ⟨w409, w407, w408, w6, rfl, ⟨by decide +kernel, by decide +kernel, by decide +kernel⟩, by decide⟩
theorem lf_Model_7 : lkF wA clA "TelescopeDeskModel" 7 5 0 := ⟨R_Model, F_Model, 10, rfl, by decide, uw_Model, w411⟩
theorem lg_Model_7 : lkG wA clA "TelescopeDeskModel" 7 5 0 := ⟨F_Model, 10, t_Model, rfl, by decide, uw_Model, w411, tk_Model, n_Model, rfl, rfl, fun _ => ⟨rfl, rfl⟩⟩
theorem lf_Model_13 : lkF wA clA "TelescopeDeskModel" 13 5 1 := ⟨R_Model, F_Model, 10, rfl, by decide, uw_Model, w412⟩
theorem lg_Model_13 : lkG wA clA "TelescopeDeskModel" 13 5 1 := ⟨F_Model, 10, t_Model, rfl, by decide, uw_Model, w412, tk_Model, n_Model, rfl, rfl, fun _ => ⟨rfl, rfl⟩⟩
theorem lf_Model_16 : lkF wA clA "TelescopeDeskModel" 16 5 2 := ⟨R_Model, F_Model, 10, rfl, by decide, uw_Model, w413⟩
theorem lg_Model_16 : lkG wA clA "TelescopeDeskModel" 16 5 2 := ⟨F_Model, 10, t_Model, rfl, by decide, uw_Model, w413, tk_Model, n_Model, rfl, rfl, fun _ => ⟨rfl, rfl⟩⟩
theorem lf_Model_19 : lkF wA clA "TelescopeDeskModel" 19 5 3 := ⟨R_Model, F_Model, 10, rfl, by decide, uw_Model, w414⟩
theorem lg_Model_19 : lkG wA clA "TelescopeDeskModel" 19 5 3 := ⟨F_Model, 10, t_Model, rfl, by decide, uw_Model, w414, tk_Model, n_Model, rfl, rfl, fun _ => ⟨rfl, rfl⟩⟩
theorem lf_Model_22 : lkF wA clA "TelescopeDeskModel" 22 5 4 := ⟨R_Model, F_Model, 10, rfl, by decide, uw_Model, w415⟩
theorem lg_Model_22 : lkG wA clA "TelescopeDeskModel" 22 5 4 := ⟨F_Model, 10, t_Model, rfl, by decide, uw_Model, w415, tk_Model, n_Model, rfl, rfl, fun _ => ⟨rfl, rfl⟩⟩
theorem lf_Model_49 : lkF wA clA "TelescopeDeskModel" 49 5 5 := ⟨R_Model, F_Model, 10, rfl, by decide, uw_Model, w416⟩
theorem lp_Model_49 : lkP wA clA "TelescopeDeskModel" 49 5 5 := ⟨R_Model, F_Model, 10, t_Model, rfl, by decide, uw_Model, w416, tk_Model, n_Model, rfl, rfl⟩
theorem lf_Model_25 : lkF wA clA "TelescopeDeskModel" 25 5 6 := ⟨R_Model, F_Model, 10, rfl, by decide, uw_Model, w417⟩
theorem lg_Model_25 : lkG wA clA "TelescopeDeskModel" 25 5 6 := ⟨F_Model, 10, t_Model, rfl, by decide, uw_Model, w417, tk_Model, n_Model, rfl, rfl, fun _ => ⟨rfl, rfl⟩⟩
theorem lf_Model_28 : lkF wA clA "TelescopeDeskModel" 28 5 7 := ⟨R_Model, F_Model, 10, rfl, by decide, uw_Model, w418⟩
theorem lg_Model_28 : lkG wA clA "TelescopeDeskModel" 28 5 7 := ⟨F_Model, 10, t_Model, rfl, by decide, uw_Model, w418, tk_Model, n_Model, rfl, rfl, fun _ => ⟨rfl, rfl⟩⟩
theorem lf_Model_31 : lkF wA clA "TelescopeDeskModel" 31 5 8 := ⟨R_Model, F_Model, 10, rfl, by decide, uw_Model, w419⟩
theorem lg_Model_31 : lkG wA clA "TelescopeDeskModel" 31 5 8 := ⟨F_Model, 10, t_Model, rfl, by decide, uw_Model, w419, tk_Model, n_Model, rfl, rfl, fun _ => ⟨rfl, rfl⟩⟩
theorem lf_Model_34 : lkF wA clA "TelescopeDeskModel" 34 5 9 := ⟨R_Model, F_Model, 10, rfl, by decide, uw_Model, w420⟩
theorem lg_Model_34 : lkG wA clA "TelescopeDeskModel" 34 5 9 := ⟨F_Model, 10, t_Model, rfl, by decide, uw_Model, w420, tk_Model, n_Model, rfl, rfl, fun _ => ⟨rfl, rfl⟩⟩
theorem lv_Law_17 : lkV wA clA "TelescopeDeskLaw" 17 5 y_Model_constant b_Model_constant 3 (some .int) 2 := ⟨w445, w442, w443, w444, w6, ⟨by decide +kernel, by decide +kernel, by decide +kernel⟩, by decide, (R_Model, F_Model, 10), rfl, rfl⟩
theorem lv_Model_73 : lkV wA clA "TelescopeDeskModel" 73 5 y_Model_linear b_Model_linear 4 (some .int) 3 := ⟨w449, w446, w447, w448, w6, ⟨by decide +kernel, by decide +kernel, by decide +kernel⟩, by decide, (R_Model, F_Model, 10), rfl, rfl⟩
theorem ls_Model_77 : lkS wA "TelescopeDeskModel" 77 y_Model_slot b_Model_slot 1 (some .boolean) 1 := ⟨w452, w450, w451, w6, ⟨by decide +kernel, by decide +kernel, by decide +kernel⟩, by decide⟩
theorem ls_Model_81 : lkS wA "TelescopeDeskModel" 81 y_Model_residue b_Model_residue 1 (some .boolean) 1 := ⟨w455, w453, w454, w6, ⟨by decide +kernel, by decide +kernel, by decide +kernel⟩, by decide⟩
theorem lv_Model_56 : lkV wA clA "TelescopeDeskModel" 56 5 y_Model_fresh b_Model_fresh 3 none 1 := ⟨w459, w456, w458, ws9, w6, ⟨by decide +kernel, by decide +kernel, by decide +kernel⟩, by decide, (R_Model, F_Model, 10), rfl, rfl⟩
theorem lv_Model_41 : lkV wA clA "TelescopeDeskModel" 41 5 y_Model_clear b_Model_clear 3 none 1 := ⟨w463, w460, w462, ws10, w6, ⟨by decide +kernel, by decide +kernel, by decide +kernel⟩, by decide, (R_Model, F_Model, 10), rfl, rfl⟩
theorem lv_Model_84 : lkV wA clA "TelescopeDeskModel" 84 5 y_Model_finish b_Model_finish 2 (some .int) 1 := ⟨w467, w464, w466, ws11, w6, ⟨by decide +kernel, by decide +kernel, by decide +kernel⟩, by decide, (R_Model, F_Model, 10), rfl, rfl⟩
theorem lv_Model_66 : lkV wA clA "TelescopeDeskModel" 66 5 y_Model_settled b_Model_settled 3 (some .boolean) 0 := ⟨w471, w468, w470, ws12, w6, ⟨by decide +kernel, by decide +kernel, by decide +kernel⟩, by decide, (R_Model, F_Model, 10), rfl, rfl⟩
theorem lv_Model_53 : lkV wA clA "TelescopeDeskModel" 53 5 y_Model_top b_Model_top 3 (some .int) 1 := ⟨w475, w472, w474, ws13, w6, ⟨by decide +kernel, by decide +kernel, by decide +kernel⟩, by decide, (R_Model, F_Model, 10), rfl, rfl⟩
theorem lv_Model_59 : lkV wA clA "TelescopeDeskModel" 59 5 y_Model_at b_Model_at 6 (some .int) 2 := ⟨w479, w476, w478, ws14, w6, ⟨by decide +kernel, by decide +kernel, by decide +kernel⟩, by decide, (R_Model, F_Model, 10), rfl, rfl⟩
theorem ls_Model_45 : lkS wA "TelescopeDeskModel" 45 y_Model_mod b_Model_mod 2 (some .int) 1 := ⟨w482, w480, w481, w6, ⟨by decide +kernel, by decide +kernel, by decide +kernel⟩, by decide⟩
theorem lv_Model_62 : lkV wA clA "TelescopeDeskModel" 62 5 y_Model_divide b_Model_divide 7 none 2 := ⟨w486, w483, w485, ws15, w6, ⟨by decide +kernel, by decide +kernel, by decide +kernel⟩, by decide, (R_Model, F_Model, 10), rfl, rfl⟩
theorem lv_Model_70 : lkV wA clA "TelescopeDeskModel" 70 5 y_Model_put b_Model_put 3 none 1 := ⟨w490, w487, w489, ws16, w6, ⟨by decide +kernel, by decide +kernel, by decide +kernel⟩, by decide, (R_Model, F_Model, 10), rfl, rfl⟩
theorem lv_Law_22 : lkV wA clA "TelescopeDeskLaw" 22 5 y_Model_linear b_Model_linear 4 (some .int) 3 := ⟨w449, w491, w447, w448, w6, ⟨by decide +kernel, by decide +kernel, by decide +kernel⟩, by decide, (R_Model, F_Model, 10), rfl, rfl⟩
theorem lv_Law_26 : lkV wA clA "TelescopeDeskLaw" 26 5 y_Model_power b_Model_power 3 (some .int) 2 := ⟨w495, w492, w493, w494, w6, ⟨by decide +kernel, by decide +kernel, by decide +kernel⟩, by decide, (R_Model, F_Model, 10), rfl, rfl⟩
theorem lv_Law_30 : lkV wA clA "TelescopeDeskLaw" 30 5 y_Model_pole b_Model_pole 4 (some .int) 3 := ⟨w499, w496, w497, w498, w6, ⟨by decide +kernel, by decide +kernel, by decide +kernel⟩, by decide, (R_Model, F_Model, 10), rfl, rfl⟩
theorem lv_Law_34 : lkV wA clA "TelescopeDeskLaw" 34 5 y_Model_add b_Model_add 7 (some .int) 3 := ⟨w503, w500, w501, w502, w6, ⟨by decide +kernel, by decide +kernel, by decide +kernel⟩, by decide, (R_Model, F_Model, 10), rfl, rfl⟩
theorem lv_Model_87 : lkV wA clA "TelescopeDeskModel" 87 5 y_Model_isZero b_Model_isZero 4 (some .boolean) 1 := ⟨w507, w504, w506, ws17, w6, ⟨by decide +kernel, by decide +kernel, by decide +kernel⟩, by decide, (R_Model, F_Model, 10), rfl, rfl⟩
theorem lv_Model_90 : lkV wA clA "TelescopeDeskModel" 90 5 y_Model_load b_Model_load 4 none 2 := ⟨w511, w508, w510, ws18, w6, ⟨by decide +kernel, by decide +kernel, by decide +kernel⟩, by decide, (R_Model, F_Model, 10), rfl, rfl⟩
theorem lv_Model_93 : lkV wA clA "TelescopeDeskModel" 93 5 y_Model_times b_Model_times 7 none 3 := ⟨w515, w512, w514, ws19, w6, ⟨by decide +kernel, by decide +kernel, by decide +kernel⟩, by decide, (R_Model, F_Model, 10), rfl, rfl⟩
theorem lv_Model_97 : lkV wA clA "TelescopeDeskModel" 97 5 y_Model_addRow b_Model_addRow 5 none 3 := ⟨w519, w516, w518, ws20, w6, ⟨by decide +kernel, by decide +kernel, by decide +kernel⟩, by decide, (R_Model, F_Model, 10), rfl, rfl⟩
theorem lv_Law_38 : lkV wA clA "TelescopeDeskLaw" 38 5 y_Model_multiply b_Model_multiply 5 (some .int) 3 := ⟨w523, w520, w521, w522, w6, ⟨by decide +kernel, by decide +kernel, by decide +kernel⟩, by decide, (R_Model, F_Model, 10), rfl, rfl⟩
theorem lv_Law_42 : lkV wA clA "TelescopeDeskLaw" 42 5 y_Model_shift b_Model_shift 4 (some .int) 2 := ⟨w527, w524, w525, w526, w6, ⟨by decide +kernel, by decide +kernel, by decide +kernel⟩, by decide, (R_Model, F_Model, 10), rfl, rfl⟩
theorem lv_Model_100 : lkV wA clA "TelescopeDeskModel" 100 5 y_Model_moved b_Model_moved 4 none 2 := ⟨w531, w528, w530, ws21, w6, ⟨by decide +kernel, by decide +kernel, by decide +kernel⟩, by decide, (R_Model, F_Model, 10), rfl, rfl⟩
theorem lv_Law_46 : lkV wA clA "TelescopeDeskLaw" 46 5 y_Model_difference b_Model_difference 3 (some .int) 2 := ⟨w535, w532, w533, w534, w6, ⟨by decide +kernel, by decide +kernel, by decide +kernel⟩, by decide, (R_Model, F_Model, 10), rfl, rfl⟩
theorem lv_Model_103 : lkV wA clA "TelescopeDeskModel" 103 5 y_Model_differ b_Model_differ 5 none 1 := ⟨w539, w536, w538, ws22, w6, ⟨by decide +kernel, by decide +kernel, by decide +kernel⟩, by decide, (R_Model, F_Model, 10), rfl, rfl⟩
theorem lv_Law_55 : lkV wA clA "TelescopeDeskLaw" 55 5 y_Model_check b_Model_check 5 (some .boolean) 2 := ⟨w543, w540, w541, w542, w6, ⟨by decide +kernel, by decide +kernel, by decide +kernel⟩, by decide, (R_Model, F_Model, 10), rfl, rfl⟩
theorem lv_Law_59 : lkV wA clA "TelescopeDeskLaw" 59 5 y_Model_same b_Model_same 5 (some .boolean) 2 := ⟨w547, w544, w545, w546, w6, ⟨by decide +kernel, by decide +kernel, by decide +kernel⟩, by decide, (R_Model, F_Model, 10), rfl, rfl⟩
theorem lv_Law_50 : lkV wA clA "TelescopeDeskLaw" 50 5 y_Model_telescope b_Model_telescope 7 (some .int) 3 := ⟨w551, w548, w549, w550, w6, ⟨by decide +kernel, by decide +kernel, by decide +kernel⟩, by decide, (R_Model, F_Model, 10), rfl, rfl⟩
theorem lv_Model_121 : lkV wA clA "TelescopeDeskModel" 121 5 y_Model_weigh b_Model_weigh 5 none 1 := ⟨w555, w552, w554, ws23, w6, ⟨by decide +kernel, by decide +kernel, by decide +kernel⟩, by decide, (R_Model, F_Model, 10), rfl, rfl⟩
theorem lv_Model_106 : lkV wA clA "TelescopeDeskModel" 106 5 y_Model_others b_Model_others 4 none 2 := ⟨w559, w556, w558, ws24, w6, ⟨by decide +kernel, by decide +kernel, by decide +kernel⟩, by decide, (R_Model, F_Model, 10), rfl, rfl⟩
theorem ls_Model_109 : lkS wA "TelescopeDeskModel" 109 y_Model_quotient b_Model_quotient 2 (some .int) 2 := ⟨w562, w560, w561, w6, ⟨by decide +kernel, by decide +kernel, by decide +kernel⟩, by decide⟩
theorem ls_Model_37 : lkS wA "TelescopeDeskModel" 37 y_Model_raise b_Model_raise 5 (some .int) 2 := ⟨w565, w563, w564, w6, ⟨by decide +kernel, by decide +kernel, by decide +kernel⟩, by decide⟩
theorem lv_Model_124 : lkV wA clA "TelescopeDeskModel" 124 5 y_Model_total b_Model_total 5 none 1 := ⟨w569, w566, w568, ws25, w6, ⟨by decide +kernel, by decide +kernel, by decide +kernel⟩, by decide, (R_Model, F_Model, 10), rfl, rfl⟩
theorem lv_Model_115 : lkV wA clA "TelescopeDeskModel" 115 5 y_Model_solve b_Model_solve 7 none 1 := ⟨w573, w570, w572, ws26, w6, ⟨by decide +kernel, by decide +kernel, by decide +kernel⟩, by decide, (R_Model, F_Model, 10), rfl, rfl⟩
theorem lv_Model_112 : lkV wA clA "TelescopeDeskModel" 112 5 y_Model_differences b_Model_differences 3 none 0 := ⟨w577, w574, w576, ws27, w6, ⟨by decide +kernel, by decide +kernel, by decide +kernel⟩, by decide, (R_Model, F_Model, 10), rfl, rfl⟩
theorem lv_Model_118 : lkV wA clA "TelescopeDeskModel" 118 5 y_Model_rootOf b_Model_rootOf 7 (some .int) 3 := ⟨w581, w578, w580, ws28, w6, ⟨by decide +kernel, by decide +kernel, by decide +kernel⟩, by decide, (R_Model, F_Model, 10), rfl, rfl⟩
theorem lv_Law_64 : lkV wA clA "TelescopeDeskLaw" 64 5 y_Model_ratio b_Model_ratio 2 (some .int) 1 := ⟨w585, w582, w583, w584, w6, ⟨by decide +kernel, by decide +kernel, by decide +kernel⟩, by decide, (R_Model, F_Model, 10), rfl, rfl⟩
theorem lv_Law_68 : lkV wA clA "TelescopeDeskLaw" 68 5 y_Model_degree b_Model_degree 2 (some .int) 1 := ⟨w589, w586, w587, w588, w6, ⟨by decide +kernel, by decide +kernel, by decide +kernel⟩, by decide, (R_Model, F_Model, 10), rfl, rfl⟩
theorem lv_Law_72 : lkV wA clA "TelescopeDeskLaw" 72 5 y_Model_coefficient b_Model_coefficient 3 (some .int) 2 := ⟨w593, w590, w591, w592, w6, ⟨by decide +kernel, by decide +kernel, by decide +kernel⟩, by decide, (R_Model, F_Model, 10), rfl, rfl⟩
theorem lv_Law_76 : lkV wA clA "TelescopeDeskLaw" 76 5 y_Model_exponent b_Model_exponent 3 (some .int) 2 := ⟨w597, w594, w595, w596, w6, ⟨by decide +kernel, by decide +kernel, by decide +kernel⟩, by decide, (R_Model, F_Model, 10), rfl, rfl⟩
theorem lv_Law_80 : lkV wA clA "TelescopeDeskLaw" 80 5 y_Model_weight b_Model_weight 4 (some .int) 3 := ⟨w601, w598, w599, w600, w6, ⟨by decide +kernel, by decide +kernel, by decide +kernel⟩, by decide, (R_Model, F_Model, 10), rfl, rfl⟩
theorem lv_Law_84 : lkV wA clA "TelescopeDeskLaw" 84 5 y_Model_value b_Model_value 3 (some .int) 2 := ⟨w605, w602, w603, w604, w6, ⟨by decide +kernel, by decide +kernel, by decide +kernel⟩, by decide, (R_Model, F_Model, 10), rfl, rfl⟩
theorem ls_Model_127 : lkS wA "TelescopeDeskModel" 127 y_Model_place b_Model_place 1 (some .boolean) 1 := ⟨w608, w606, w607, w6, ⟨by decide +kernel, by decide +kernel, by decide +kernel⟩, by decide⟩
theorem lv_Model_130 : lkV wA clA "TelescopeDeskModel" 130 5 y_Model_valueAt b_Model_valueAt 7 (some .int) 2 := ⟨w612, w609, w611, ws29, w6, ⟨by decide +kernel, by decide +kernel, by decide +kernel⟩, by decide, (R_Model, F_Model, 10), rfl, rfl⟩
theorem lv_Law_88 : lkV wA clA "TelescopeDeskLaw" 88 5 y_Model_sum b_Model_sum 7 (some .int) 3 := ⟨w616, w613, w614, w615, w6, ⟨by decide +kernel, by decide +kernel, by decide +kernel⟩, by decide, (R_Model, F_Model, 10), rfl, rfl⟩
def mkE (l : Launch) (D : va_G) (cI cT : ClassId) : Ev := (l, D, clA, [(cI, .int), (cT, .object "TelescopeDesk$Term")], cI, wA, [])
theorem eok (l : Launch) (D : va_G) (cI cT : ClassId) : eOK (mkE l D cI cT) := ⟨fun w hw => good_of_word (List.mem_filter.mp hw).2, fun w hw => absurd hw List.not_mem_nil, rfl⟩
end
section
abbrev Fp : Type := Fin 10007
def fi (n : Nat) : Fp := Fin.ofNat 10007 n
theorem fi_val (n : Nat) : (fi n).val = n % 10007 := rfl
theorem fi_add (a b : Nat) : fi (a + b) = fi a + fi b := by
  apply Fin.ext
  show (a + b) % 10007 = (a % 10007 + b % 10007) % 10007
  omega
theorem fi_mul (a b : Nat) : fi (a * b) = fi a * fi b := by
  apply Fin.ext
  show (a * b) % 10007 = (a % 10007 * (b % 10007)) % 10007
  exact Nat.mul_mod a b 10007
theorem fi_mod (a : Nat) : fi (a % 10007) = fi a := by
  apply Fin.ext
  show a % 10007 % 10007 = a % 10007
  omega
theorem fi_0 : fi 0 = 0 := rfl
theorem fi_1 : fi 1 = 1 := rfl
theorem fi_p : fi 10007 = 0 := rfl
theorem fi_inj {a b : Nat} (ha : a < 10007) (hb : b < 10007) (h : fi a = fi b) : a = b := by
  have h1 : a % 10007 = b % 10007 := congrArg Fin.val h
  omega
theorem fi_ne {a : Nat} (h0 : 0 < a) (ha : a < 10007) : fi a ≠ 0 := by
  intro h
  have := fi_inj ha (b := 0) (by omega) h
  omega
theorem fi_of (x : Fp) : ∃ n : Nat, n < 10007 ∧ x = fi n := ⟨x.val, x.isLt, by apply Fin.ext; show x.val = x.val % 10007; have := x.isLt; omega⟩
def px (x : Fp) : Nat → Fp
  | 0 => 1
  | n + 1 => px x n * x
theorem px_0 (x : Fp) : px x 0 = 1 := rfl
theorem px_s (x : Fp) (n : Nat) : px x (n + 1) = px x n * x := rfl
theorem px_add (x : Fp) (a b : Nat) : px x (a + b) = px x a * px x b := by
  induction b with
  | zero => rw [Nat.add_zero, px_0]; grobner
  | succ b ih => rw [← Nat.add_assoc, px_s, px_s, ih]; grobner
theorem px_mul (x y : Fp) (n : Nat) : px (x * y) n = px x n * px y n := by
  induction n with
  | zero => rw [px_0, px_0, px_0]; grobner
  | succ n ih => rw [px_s, px_s, px_s, ih]; grobner
def pwr : Nat → Nat → Nat → Nat → Nat
  | 0, y, _, _ => y
  | fuel + 1, y, f, n => if n = 0 then y else pwr fuel (if n % 2 = 1 then y * f % 10007 else y) (f * f % 10007) (n / 2)
def pw (x n : Nat) : Nat := pwr 32 1 x n
def iv (x : Nat) : Nat := pw x 10005
theorem pwr_fi : ∀ (fuel y f n : Nat), n < 2 ^ fuel → fi (pwr fuel y f n) = fi y * px (fi f) n := by
  intro fuel
  induction fuel with
  | zero =>
    intro y f n h
    have : n = 0 := by omega
    subst this
    simp only [pwr]
    rw [px_0]
    grobner
  | succ fuel ih =>
    intro y f n h
    simp only [pwr]
    by_cases h0 : n = 0
    · rw [if_pos h0, h0, px_0]
      grobner
    · rw [if_neg h0, ih _ _ _ (by omega), fi_mod, fi_mul, px_mul, ← px_add]
      by_cases h1 : n % 2 = 1
      · rw [if_pos h1, fi_mod, fi_mul]
        have e : n = n / 2 + n / 2 + 1 := by omega
        generalize n / 2 = q at e
        rw [e, px_s]
        grobner
      · rw [if_neg h1]
        have e : n = n / 2 + n / 2 := by omega
        rw [← e]
theorem pw_fi {x n : Nat} (h : n < 2 ^ 32) : fi (pw x n) = px (fi x) n := by
  unfold pw
  rw [pwr_fi _ _ _ _ h, fi_1]
  grobner
def iv_ok : Nat → Bool
  | 0 => true
  | n + 1 => ((n + 1) * iv (n + 1) % 10007 == 1) && iv_ok n
theorem iv_all : iv_ok 10006 = true := by decide +kernel
theorem iv_ok_at : ∀ n, iv_ok n = true → ∀ x, 0 < x → x ≤ n → x * iv x % 10007 = 1 := by
  intro n
  induction n with
  | zero => intro _ x h1 h2; omega
  | succ n ih =>
    intro h x h1 h2
    simp only [iv_ok, Bool.and_eq_true, beq_iff_eq] at h
    by_cases e : x = n + 1
    · rw [e]; exact h.1
    · exact ih h.2 x h1 (by omega)
def inv (x : Fp) : Fp := px x 10005
theorem iv_fi (x : Nat) : fi (iv x) = inv (fi x) := pw_fi (by decide)
theorem mul_inv {x : Fp} (h : x ≠ 0) : x * inv x = 1 := by
  obtain ⟨n, hn, rfl⟩ := fi_of x
  have h0 : 0 < n := by
    rcases Nat.eq_zero_or_pos n with e | e
    · subst e; exact absurd fi_0 h
    · exact e
  rw [← iv_fi, ← fi_mul, ← fi_mod, iv_ok_at 10006 iv_all n h0 (by omega)]
  rfl
theorem fp_zero {x y : Fp} (h : x * y = 0) (hx : x ≠ 0) : y = 0 := by
  have := mul_inv hx
  grobner
theorem fp_cancel {x y z : Fp} (h : x * y = x * z) (hx : x ≠ 0) : y = z := by
  have := mul_inv hx
  grobner
theorem fp_mul_ne {x y : Fp} (hx : x ≠ 0) (hy : y ≠ 0) : x * y ≠ 0 := fun h => hy (fp_zero h hx)
def ev (f : Nat → Fp) : Nat → Fp → Fp
  | 0, _ => 0
  | n + 1, x => f 0 + x * ev (fun i => f (i + 1)) n x
theorem ev_ext {f g : Nat → Fp} {n : Nat} (h : ∀ i, i < n → f i = g i) (x : Fp) : ev f n x = ev g n x := by
  induction n generalizing f g with
  | zero => rfl
  | succ n ih =>
    simp only [ev]
    rw [h 0 (by omega), ih (fun i hi => h (i + 1) (by omega))]
theorem ev_zero {f : Nat → Fp} {n : Nat} (h : ∀ i, i < n → f i = 0) (x : Fp) : ev f n x = 0 := by
  induction n generalizing f with
  | zero => rfl
  | succ n ih =>
    simp only [ev]
    rw [h 0 (by omega), ih (fun i hi => h (i + 1) (by omega))]
    grobner
theorem ev_more {f : Nat → Fp} {n : Nat} (m : Nat) (h : ∀ i, n ≤ i → f i = 0) (x : Fp) : ev f (n + m) x = ev f n x := by
  induction n generalizing f with
  | zero => rw [ev_zero (fun i _ => h i (by omega))]; rfl
  | succ n ih =>
    rw [show n + 1 + m = (n + m) + 1 by omega]
    simp only [ev]
    rw [ih (fun i hi => h (i + 1) (by omega))]
theorem ev_le {f : Nat → Fp} {n m : Nat} (hm : n ≤ m) (h : ∀ i, n ≤ i → f i = 0) (x : Fp) : ev f m x = ev f n x := by
  rw [show m = n + (m - n) by omega]
  exact ev_more _ h x
theorem ev_add (f g : Nat → Fp) (n : Nat) (x : Fp) : ev (fun i => f i + g i) n x = ev f n x + ev g n x := by
  induction n generalizing f g with
  | zero => simp only [ev]; grobner
  | succ n ih =>
    simp only [ev]
    rw [ih (fun i => f (i + 1)) (fun i => g (i + 1))]
    grobner
theorem ev_smul (c : Fp) (f : Nat → Fp) (n : Nat) (x : Fp) : ev (fun i => c * f i) n x = c * ev f n x := by
  induction n generalizing f with
  | zero => simp only [ev]; grobner
  | succ n ih =>
    simp only [ev]
    rw [ih (fun i => f (i + 1))]
    grobner
def mx (b : Fp) (f : Nat → Fp) : Nat → Fp := fun i => b * f i + (if i = 0 then 0 else f (i - 1))
theorem ev_sh (f : Nat → Fp) (n : Nat) (x : Fp) : ev (fun i => if i = 0 then 0 else f (i - 1)) (n + 1) x = x * ev f n x := by
  simp only [ev]
  rw [ev_ext (g := f) (fun i _ => by simp)]
  grobner
theorem ev_mx {b : Fp} {f : Nat → Fp} {n : Nat} (h : ∀ i, n ≤ i → f i = 0) (x : Fp) : ev (mx b f) (n + 1) x = (x + b) * ev f n x := by
  unfold mx
  rw [ev_add (fun i => b * f i) (fun i => if i = 0 then 0 else f (i - 1)), ev_smul, ev_sh, ev_le (by omega) h]
  grobner
def dv (r : Fp) (f : Nat → Fp) (n : Nat) : Nat → Fp := fun i => ev (fun j => f (i + 1 + j)) (n - (i + 1)) r
theorem dv_0 (r : Fp) (f : Nat → Fp) (n : Nat) : dv r f (n + 1) 0 = ev (fun j => f (j + 1)) n r := by
  show ev (fun j => f (0 + 1 + j)) (n + 1 - (0 + 1)) r = _
  rw [show n + 1 - (0 + 1) = n by omega]
  exact ev_ext (fun j _ => by rw [show 0 + 1 + j = j + 1 by omega]) r
theorem dv_s (r : Fp) (f : Nat → Fp) (n i : Nat) : dv r f (n + 1) (i + 1) = dv r (fun i => f (i + 1)) n i := by
  show ev (fun j => f (i + 1 + 1 + j)) (n + 1 - (i + 1 + 1)) r = ev (fun j => f (i + 1 + j + 1)) (n - (i + 1)) r
  rw [show n + 1 - (i + 1 + 1) = n - (i + 1) by omega]
  exact ev_ext (fun j _ => by rw [show i + 1 + 1 + j = i + 1 + j + 1 by omega]) r
theorem ev_dv1 (r : Fp) (n : Nat) : ∀ (f : Nat → Fp) (x : Fp), ev f (n + 1) x = (x - r) * ev (dv r f (n + 1)) n x + ev f (n + 1) r := by
  induction n with
  | zero =>
    intro f x
    show f 0 + x * 0 = (x - r) * 0 + (f 0 + r * 0)
    grobner
  | succ n ih =>
    intro f x
    have h1 := ih (fun i => f (i + 1)) x
    have h2 : ev (dv r f (n + 1 + 1)) (n + 1) x = ev (fun j => f (j + 1)) (n + 1) r + x * ev (dv r (fun i => f (i + 1)) (n + 1)) n x := by
      show dv r f (n + 1 + 1) 0 + x * ev (fun i => dv r f (n + 1 + 1) (i + 1)) n x = _
      rw [dv_0, ev_ext (g := dv r (fun i => f (i + 1)) (n + 1)) (fun i _ => dv_s r f (n + 1) i)]
    rw [h2]
    show f 0 + x * ev (fun i => f (i + 1)) (n + 1) x = (x - r) * (ev (fun i => f (i + 1)) (n + 1) r + x * ev (dv r (fun i => f (i + 1)) (n + 1)) n x) + (f 0 + r * ev (fun i => f (i + 1)) (n + 1) r)
    rw [h1]
    grobner
theorem ev_dv (r : Fp) (f : Nat → Fp) (n : Nat) (x : Fp) : ev f n x = (x - r) * ev (dv r f n) (n - 1) x + ev f n r := by
  cases n with
  | zero =>
    show (0 : Fp) = (x - r) * 0 + 0
    grobner
  | succ n => exact ev_dv1 r n f x
theorem roots {n : Nat} : ∀ {f : Nat → Fp} {a : Nat → Fp}, (∀ i j, i < n → j < n → a i = a j → i = j) → (∀ i, i < n → ev f n (a i) = 0) → ∀ i, i < n → f i = 0 := by
  induction n with
  | zero => intro f a _ _ i hi; omega
  | succ n ih =>
    intro f a hinj hz i hi
    have hq : ∀ i, i < n → dv (a n) f (n + 1) i = 0 := by
      refine ih (a := a) (fun i j h1 h2 h => hinj i j (by omega) (by omega) h) (fun i hi => ?_)
      have h1 := ev_dv (a n) f (n + 1) (a i)
      rw [hz i (by omega), hz n (by omega), Nat.add_sub_cancel] at h1
      have h2 : a i - a n ≠ 0 := by
        intro h
        have : a i = a n := by grobner
        have := hinj i n (by omega) (by omega) this
        omega
      refine fp_zero (x := a i - a n) ?_ h2
      grobner
    have hs : ∀ m i, i + m = n + 1 → ev (fun j => f (i + j)) m (a n) = 0 ∧ (0 < m → f i = 0) := by
      intro m
      induction m with
      | zero => intro i h; exact ⟨rfl, fun h => by omega⟩
      | succ m ihm =>
        intro i h
        have h1 := (ihm (i + 1) (by omega)).1
        have h2 : ev (fun j => f (i + j)) (m + 1) (a n) = 0 := by
          cases i with
          | zero =>
            have := hz n (by omega)
            rw [show m + 1 = n + 1 by omega, ← this]
            exact ev_ext (fun j _ => by rw [Nat.zero_add]) _
          | succ i =>
            have := hq i (by omega)
            unfold dv at this
            rw [show n + 1 - (i + 1) = m + 1 by omega] at this
            exact this
        refine ⟨h2, fun _ => ?_⟩
        simp only [ev] at h2
        rw [ev_ext (g := fun j => f (i + 1 + j)) (fun j _ => by rw [show i + (j + 1) = i + 1 + j by omega]), h1] at h2
        rw [Nat.add_zero] at h2
        grobner
    exact (hs (n + 1 - i) i (by omega)).2 (by omega)
theorem ev_inj {n : Nat} {f g : Nat → Fp} {a : Nat → Fp} (hinj : ∀ i j, i < n → j < n → a i = a j → i = j) (h : ∀ i, i < n → ev f n (a i) = ev g n (a i)) : ∀ i, i < n → f i = g i := by
  intro i hi
  have := roots (f := fun i => f i + (-1) * g i) hinj (fun i hi => by
    rw [ev_add f (fun i => (-1) * g i), ev_smul, h i hi]
    grobner) i hi
  grobner
def PF (n : Nat) (φ : Fp → Fp) : Prop := ∃ f : Nat → Fp, ∀ x, φ x = ev f n x
theorem PF.mono {n m : Nat} {φ : Fp → Fp} (h : PF n φ) (hm : n ≤ m) : PF m φ := by
  obtain ⟨f, hf⟩ := h
  refine ⟨fun i => if i < n then f i else 0, fun x => ?_⟩
  rw [ev_le hm (fun i hi => by rw [if_neg (by omega)]), hf]
  exact ev_ext (fun i hi => by rw [if_pos hi]) x
theorem PF.add {n : Nat} {φ ψ : Fp → Fp} (h : PF n φ) (h2 : PF n ψ) : PF n (fun x => φ x + ψ x) := by
  obtain ⟨f, hf⟩ := h
  obtain ⟨g, hg⟩ := h2
  exact ⟨fun i => f i + g i, fun x => by show φ x + ψ x = _; rw [ev_add, hf, hg]⟩
theorem PF.smul {n : Nat} {φ : Fp → Fp} (c : Fp) (h : PF n φ) : PF n (fun x => c * φ x) := by
  obtain ⟨f, hf⟩ := h
  exact ⟨fun i => c * f i, fun x => by show c * φ x = _; rw [ev_smul, hf]⟩
theorem PF.xmul {n : Nat} {φ : Fp → Fp} (h : PF n φ) : PF (n + 1) (fun x => x * φ x) := by
  obtain ⟨f, hf⟩ := h
  exact ⟨fun i => if i = 0 then 0 else f (i - 1), fun x => by show x * φ x = _; rw [ev_sh, hf]⟩
theorem PF.congr {n : Nat} {φ ψ : Fp → Fp} (h : PF n φ) (e : ∀ x, ψ x = φ x) : PF n ψ := by
  obtain ⟨f, hf⟩ := h
  exact ⟨f, fun x => by rw [e, hf]⟩
theorem PF.zero (n : Nat) : PF n (fun _ => 0) := ⟨fun _ => 0, fun x => (ev_zero (fun _ _ => rfl) x).symm⟩
theorem PF.const {n : Nat} (c : Fp) (h : 0 < n) : PF n (fun _ => c) := by
  refine PF.mono (n := 1) ⟨fun _ => c, fun x => ?_⟩ h
  simp only [ev]
  grobner
theorem PF.mul {n m : Nat} {φ ψ : Fp → Fp} (h : PF n φ) (h2 : PF m ψ) : PF (n + m) (fun x => φ x * ψ x) := by
  obtain ⟨f, hf⟩ := h
  induction n generalizing f φ with
  | zero => exact (PF.zero _).congr (fun x => by rw [hf]; simp only [ev]; grobner)
  | succ n ih =>
    have h3 := ih (φ := ev (fun i => f (i + 1)) n) (fun i => f (i + 1)) (fun x => rfl)
    refine (((h2.smul (f 0)).mono (m := n + 1 + m) (by omega)).add ((h3.xmul).mono (m := n + 1 + m) (by omega))).congr (fun x => ?_)
    rw [hf]
    simp only [ev]
    grobner
def npl (x : Fp) : Prop := ∀ b, b < 9 → x + fi b ≠ 0
theorem npl_pt {i : Nat} (h : i < 9000) : npl (fi (i + 1)) := by
  intro b hb
  rw [← fi_add]
  exact fi_ne (by omega) (by omega)
theorem pt_inj {i j : Nat} (hi : i < 9000) (hj : j < 9000) (h : fi (i + 1) = fi (j + 1)) : i = j := by
  have := fi_inj (by omega) (by omega) h
  omega
theorem PF.null {n : Nat} {φ : Fp → Fp} (h : PF n φ) (hn : n ≤ 9000) (hz : ∀ x, npl x → φ x = 0) (x : Fp) : φ x = 0 := by
  obtain ⟨f, hf⟩ := h
  rw [hf]
  refine ev_zero (roots (a := fun i => fi (i + 1)) (fun i j h1 h2 h => pt_inj (by omega) (by omega) h) (fun i hi => ?_)) x
  rw [← hf]
  exact hz _ (npl_pt (by omega))
theorem ev_eq {n : Nat} {f g : Nat → Fp} (hn : n ≤ 9000) (h : ∀ x, npl x → ev f n x = ev g n x) : ∀ i, i < n → f i = g i :=
  ev_inj (a := fun i => fi (i + 1)) (fun i j h1 h2 h => pt_inj (by omega) (by omega) h) (fun i hi => h _ (npl_pt (by omega)))
end
section
theorem PF.lin {n : Nat} (b : Fp) {φ : Fp → Fp} (h : PF n φ) : PF (n + 1) (fun x => (x + b) * φ x) :=
  ((h.xmul).add ((h.smul b).mono (by omega))).congr (fun x => by grobner)
theorem PF.evs (t : Nat → Fp) (n : Nat) (b : Fp) : PF n (fun x => ev t n (x + b)) := by
  induction n generalizing t with
  | zero => exact PF.zero _
  | succ n ih =>
    refine ((PF.const (n := n + 1) (t 0) (by omega)).add ((ih (fun i => t (i + 1))).lin b)).congr (fun x => ?_)
    simp only [ev]
theorem PF.evf (f : Nat → Fp) (n : Nat) : PF n (ev f n) := ⟨f, fun _ => rfl⟩
theorem PF.lpow (b : Fp) (n : Nat) : PF (n + 1) (fun x => px (x + b) n) := by
  induction n with
  | zero => exact (PF.const (n := 1) 1 (by omega)).congr (fun x => rfl)
  | succ n ih => exact (ih.lin b).congr (fun x => by rw [px_s]; grobner)
theorem ser_u {b m : Nat} (hb : b < 9) {B h : Fp → Fp} (hB : PF m B) (hh : PF m h) (hm : m ≤ 4000) (hB0 : B (-fi b) ≠ 0) : ∀ (n : Nat) (t : Nat → Fp), n ≤ 100 → (∀ x, npl x → ev t n (x + fi b) * B x + px (x + fi b) n * h x = 0) → ∀ i, i < n → t i = 0 := by
  intro n
  induction n with
  | zero => intro t _ _ i hi; omega
  | succ n ih =>
    intro t hn hz
    have hpf : PF (n + 1 + m + (n + 1 + 1 + m)) (fun x => ev t (n + 1) (x + fi b) * B x + px (x + fi b) (n + 1) * h x) :=
      (((PF.evs t (n + 1) (fi b)).mul hB).mono (by omega)).add (((PF.lpow (fi b) (n + 1)).mul hh).mono (by omega))
    have h0 := hpf.null (by omega) hz (-fi b)
    have ht : t 0 = 0 := by
      have e1 : ev t (n + 1) (-fi b + fi b) = t 0 := by
        rw [show -fi b + fi b = (0 : Fp) by grobner]
        simp only [ev]
        grobner
      have e2 : px (-fi b + fi b) (n + 1) = (0 : Fp) := by
        rw [show -fi b + fi b = (0 : Fp) by grobner, px_s]
        grobner
      simp only [e1, e2] at h0
      refine fp_zero (x := B (-fi b)) ?_ hB0
      grobner
    have hr := ih (fun i => t (i + 1)) (by omega) (fun x hx => by
      have h1 := hz x hx
      have h2 : x + fi b ≠ 0 := hx b hb
      refine fp_zero (x := x + fi b) ?_ h2
      rw [px_s] at h1
      simp only [ev] at h1
      rw [ht] at h1
      grobner)
    intro i hi
    cases i with
    | zero => exact ht
    | succ i => exact hr i (by omega)
def df (y : Nat → Fp) : Nat → Nat → Fp
  | 0, j => y j
  | i + 1, j => df y i (j + 1) - df y i j
theorem df_s (y : Nat → Fp) (i j : Nat) : df y (i + 1) j = df (fun k => y (k + 1) - y k) i j := by
  induction i generalizing j with
  | zero => rfl
  | succ i ih =>
    show df y (i + 1) (j + 1) - df y (i + 1) j = df (fun k => y (k + 1) - y k) i (j + 1) - df (fun k => y (k + 1) - y k) i j
    rw [ih, ih]
theorem df_lin (y w : Nat → Fp) (c : Fp) (i j : Nat) : df (fun k => y k + c * w k) i j = df y i j + c * df w i j := by
  induction i generalizing j with
  | zero => rfl
  | succ i ih =>
    show df (fun k => y k + c * w k) i (j + 1) - df (fun k => y k + c * w k) i j = df y i (j + 1) - df y i j + c * (df w i (j + 1) - df w i j)
    rw [ih, ih]
    grobner
theorem df_pow (q : Fp) (i j : Nat) : df (fun k => px q k) i j = px (q - 1) i * px q j := by
  induction i generalizing j with
  | zero => show px q j = px (q - 1) 0 * px q j; rw [px_0]; grobner
  | succ i ih =>
    show df (fun k => px q k) i (j + 1) - df (fun k => px q k) i j = _
    rw [ih, ih, px_s, px_s]
    grobner
def ff (x : Fp) : Nat → Fp
  | 0 => 1
  | m + 1 => ff x m * (x - fi m)
theorem ff_s (x : Fp) (m : Nat) : ff (x + 1) (m + 1) = (x + 1) * ff x m := by
  induction m with
  | zero => simp only [ff]; rw [fi_0]; grobner
  | succ m ih =>
    show ff (x + 1) (m + 1) * (x + 1 - fi (m + 1)) = (x + 1) * (ff x m * (x - fi m))
    rw [ih, fi_add, fi_1]
    grobner
theorem ff_d (x : Fp) (m : Nat) : ff (x + 1) (m + 1) = ff x (m + 1) + fi (m + 1) * ff x m := by
  rw [ff_s]
  show _ = ff x m * (x - fi m) + _
  rw [fi_add, fi_1]
  grobner
theorem ff_0 (m : Nat) : ff 0 (m + 1) = 0 := by
  induction m with
  | zero => simp only [ff]; rw [fi_0]; grobner
  | succ m ih =>
    show ff 0 (m + 1) * (0 - fi (m + 1)) = 0
    rw [ih]
    grobner
def fc : Nat → Fp
  | 0 => 1
  | m + 1 => fi (m + 1) * fc m
theorem fc_ne {m : Nat} (h : m < 10007) : fc m ≠ 0 := by
  induction m with
  | zero => exact fi_ne (a := 1) (by omega) (by omega)
  | succ m ih => exact fp_mul_ne (fi_ne (by omega) h) (ih (by omega))
theorem inv_u {x y : Fp} (h : x * y = 1) : inv x = y := by
  have hx : x ≠ 0 := by
    intro e
    rw [e] at h
    have : (0 : Fp) = 1 := by grobner
    exact absurd this (by decide)
  have := mul_inv hx
  grobner
theorem inv_mul {x y : Fp} (hx : x ≠ 0) (hy : y ≠ 0) : inv (x * y) = inv x * inv y := by
  refine inv_u ?_
  have h1 := mul_inv hx
  have h2 := mul_inv hy
  grobner
def nw (c : Nat → Fp) : Nat → Fp → Fp
  | 0, _ => 0
  | n + 1, x => nw c n x + c n * ff x n
def nc (y : Nat → Fp) (m : Nat) : Fp := df y m 0 * inv (fc m)
theorem nw_d (y : Nat → Fp) {n : Nat} (hn : n < 10000) (x : Fp) : nw (nc y) (n + 1) (x + 1) = nw (nc y) (n + 1) x + nw (nc (fun k => y (k + 1) - y k)) n x := by
  induction n with
  | zero => simp only [nw, ff]; grobner
  | succ n ih =>
    have h1 := ih (by omega)
    show nw (nc y) (n + 1) (x + 1) + nc y (n + 1) * ff (x + 1) (n + 1) = nw (nc y) (n + 1) x + nc y (n + 1) * ff x (n + 1) + (nw (nc (fun k => y (k + 1) - y k)) n x + nc (fun k => y (k + 1) - y k) n * ff x n)
    rw [h1, ff_d]
    have h2 : nc y (n + 1) * fi (n + 1) = nc (fun k => y (k + 1) - y k) n := by
      unfold nc
      rw [df_s]
      show _ * inv (fi (n + 1) * fc n) * _ = _
      have h3 : fi (n + 1) ≠ 0 := fi_ne (by omega) (by omega)
      rw [inv_mul h3 (fc_ne (by omega))]
      have := mul_inv h3
      grobner
    grobner
theorem nw_0 (c : Nat → Fp) (n : Nat) : nw c (n + 1) 0 = c 0 := by
  induction n with
  | zero => simp only [nw, ff]; grobner
  | succ n ih =>
    show nw c (n + 1) 0 + c (n + 1) * ff 0 (n + 1) = c 0
    rw [ih, ff_0]
    grobner
theorem newton : ∀ (j n : Nat) (y : Nat → Fp), j ≤ n → n < 10000 → nw (nc y) (n + 1) (fi j) = y j := by
  intro j
  induction j with
  | zero =>
    intro n y _ _
    rw [fi_0, nw_0]
    show df y 0 0 * inv (fc 0) = y 0
    have : inv (fc 0) = 1 := inv_u (by show (1 : Fp) * 1 = 1; grobner)
    rw [this]
    show y 0 * 1 = y 0
    grobner
  | succ j ih =>
    intro n y hj hn
    rw [fi_add, fi_1, nw_d y hn, ih n y (by omega) hn]
    cases n with
    | zero => omega
    | succ n =>
      rw [ih n _ (by omega) (by omega)]
      grobner
def hw (c : Nat → Fp) : Nat → Nat → Fp → Fp
  | 0, _, _ => 0
  | m + 1, i, x => c i + (x - fi i) * hw c m (i + 1) x
theorem hw_nw (c : Nat → Fp) (m i : Nat) (x : Fp) : nw c (i + m) x = nw c i x + ff x i * hw c m i x := by
  induction m generalizing i with
  | zero => simp only [hw, Nat.add_zero]; grobner
  | succ m ih =>
    have h1 := ih (i + 1)
    rw [show i + (m + 1) = i + 1 + m by omega, h1]
    show nw c i x + c i * ff x i + ff x i * (x - fi i) * hw c m (i + 1) x = nw c i x + ff x i * (c i + (x - fi i) * hw c m (i + 1) x)
    grobner
theorem PF.fall (m : Nat) : PF (m + 1) (fun x => ff x m) := by
  induction m with
  | zero => exact (PF.const (n := 1) 1 (by omega))
  | succ m ih =>
    refine (ih.lin (-fi m)).congr (fun x => ?_)
    show ff x m * (x - fi m) = _
    grobner
theorem PF.newt (c : Nat → Fp) (n : Nat) : PF n (nw c n) := by
  induction n with
  | zero => exact PF.zero _
  | succ n ih => exact ((ih.mono (by omega)).add ((PF.fall n).smul (c n))).congr (fun x => rfl)
theorem PF.eqn {n : Nat} {φ ψ : Fp → Fp} (h1 : PF n φ) (h2 : PF n ψ) (hn : n ≤ 10000) (h : ∀ j, j < n → φ (fi j) = ψ (fi j)) (x : Fp) : φ x = ψ x := by
  obtain ⟨f, hf⟩ := h1
  obtain ⟨g, hg⟩ := h2
  rw [hf, hg]
  refine ev_ext (ev_inj (a := fi) (fun i j hi hj e => fi_inj (by omega) (by omega) e) (fun i hi => ?_)) x
  rw [← hf, ← hg, h i hi]
theorem df_deg {n : Nat} {φ : Fp → Fp} (h : PF n φ) (hn : n < 9000) : df (fun j => φ (fi j)) n 0 = 0 := by
  have h1 : ∀ x, φ x = nw (nc (fun j => φ (fi j))) n x := by
    cases n with
    | zero => obtain ⟨f, hf⟩ := h; intro x; rw [hf]; rfl
    | succ n =>
      refine fun x => PF.eqn h (PF.newt _ _) (by omega) (fun j hj => ?_) x
      rw [newton j n _ (by omega) (by omega)]
  have h2 := newton n n (fun j => φ (fi j)) (by omega) (by omega)
  have h3 : nw (nc (fun j => φ (fi j))) n (fi n) + nc (fun j => φ (fi j)) n * ff (fi n) n = φ (fi n) := h2
  rw [← h1] at h3
  have h4 : ∀ m, m ≤ n → ff (fi n) m ≠ 0 := by
    intro m
    induction m with
    | zero => intro _; exact fi_ne (a := 1) (by omega) (by omega)
    | succ m ih =>
      intro hm
      refine fp_mul_ne (ih (by omega)) (fun e => ?_)
      have : fi n = fi m := by grobner
      have := fi_inj (by omega) (by omega) this
      omega
  have h5 : nc (fun j => φ (fi j)) n = 0 := by
    refine fp_zero (x := ff (fi n) n) ?_ (h4 n (by omega))
    grobner
  have h6 := mul_inv (fc_ne (m := n) (by omega))
  unfold nc at h5
  grobner
end
section
theorem PF.mulT {n m : Nat} {φ ψ : Fp → Fp} (h : PF (n + 1) φ) (h2 : PF m ψ) : PF (n + m) (fun x => φ x * ψ x) := by
  obtain ⟨f, hf⟩ := h
  induction n generalizing f φ with
  | zero =>
    refine ((h2.smul (f 0)).mono (m := 0 + m) (by omega)).congr (fun x => ?_)
    rw [hf]
    simp only [ev]
    grobner
  | succ n ih =>
    have h3 := ih (φ := ev (fun i => f (i + 1)) (n + 1)) (fun i => f (i + 1)) (fun x => rfl)
    refine (((h2.smul (f 0)).mono (m := n + 1 + m) (by omega)).add ((h3.xmul).mono (m := n + 1 + m) (by omega))).congr (fun x => ?_)
    rw [hf]
    show (f 0 + x * ev (fun i => f (i + 1)) (n + 1) x) * ψ x = _
    grobner
theorem PF.neg {n : Nat} {φ : Fp → Fp} (h : PF n φ) : PF n (fun x => -φ x) := (h.smul (-1)).congr (fun x => by grobner)
theorem PF.sub {n : Nat} {φ ψ : Fp → Fp} (h : PF n φ) (h2 : PF n ψ) : PF n (fun x => φ x - ψ x) := (h.add h2.neg).congr (fun x => by grobner)
def pp (e : Nat → Nat) : Nat → Fp → Fp
  | 0, _ => 1
  | m + 1, x => pp e m x * px (x + fi m) (e m)
def sE (e : Nat → Nat) : Nat → Nat
  | 0 => 0
  | m + 1 => sE e m + e m
theorem PF.ppf (e : Nat → Nat) (m : Nat) : PF (sE e m + 1) (pp e m) := by
  induction m with
  | zero => exact PF.const 1 (by omega)
  | succ m ih => exact ((ih.mulT (PF.lpow (fi m) (e m))).mono (by show sE e m + (e m + 1) ≤ sE e m + e m + 1; omega)).congr (fun x => rfl)
theorem pp_ext {e f : Nat → Nat} {m : Nat} (h : ∀ i, i < m → e i = f i) (x : Fp) : pp e m x = pp f m x := by
  induction m with
  | zero => rfl
  | succ m ih =>
    show pp e m x * px (x + fi m) (e m) = pp f m x * px (x + fi m) (f m)
    rw [ih (fun i hi => h i (by omega)), h m (by omega)]
theorem pp_out {e : Nat → Nat} {m b : Nat} (hb : b < m) (x : Fp) : pp e m x = px (x + fi b) (e b) * pp (va_up e b 0) m x := by
  induction m with
  | zero => omega
  | succ m ih =>
    show pp e m x * px (x + fi m) (e m) = px (x + fi b) (e b) * (pp (va_up e b 0) m x * px (x + fi m) (va_up e b 0 m))
    by_cases h : b = m
    · subst h
      rw [va_up_s, pp_ext (e := va_up e b 0) (f := e) (fun i hi => va_up_n (by omega)), px_0]
      grobner
    · rw [ih (by omega), va_up_n (f := e) (k := b) (j := m) (v := 0) (fun z => h z.symm)]
      grobner
theorem pow_ne {x : Fp} (h : x ≠ 0) (n : Nat) : px x n ≠ 0 := by
  induction n with
  | zero =>
    rw [px_0]
    exact fi_ne (a := 1) (by omega) (by omega)
  | succ n ih =>
    rw [px_s]
    exact fp_mul_ne ih h
theorem pp_ne {e : Nat → Nat} {m : Nat} {x : Fp} (h : ∀ o, o < m → e o ≠ 0 → x + fi o ≠ 0) : pp e m x ≠ 0 := by
  induction m with
  | zero => exact fi_ne (a := 1) (by omega) (by omega)
  | succ m ih =>
    show pp e m x * px (x + fi m) (e m) ≠ 0
    refine fp_mul_ne (ih (fun o ho => h o (by omega))) ?_
    by_cases h0 : e m = 0
    · rw [h0]
      rw [px_0]
      exact fi_ne (a := 1) (by omega) (by omega)
    · exact pow_ne (h m (by omega) h0) _
theorem ev_split (s : Nat → Fp) (n k : Nat) (y : Fp) : ev s (n + k) y = ev s n y + px y n * ev (fun i => s (n + i)) k y := by
  induction n generalizing s with
  | zero =>
    simp only [ev, Nat.zero_add]
    rw [px_0]
    grobner
  | succ n ih =>
    rw [show n + 1 + k = (n + k) + 1 by omega, px_s]
    simp only [ev]
    rw [ih (fun i => s (i + 1))]
    rw [ev_ext (f := fun i => s (n + 1 + i)) (g := fun i => s (n + i + 1)) (fun i _ => by rw [show n + 1 + i = n + i + 1 by omega])]
    grobner
theorem ser_step {b o : Nat} {δ : Fp} (hδ : fi b + δ = fi o) {Nf D h : Fp → Fp} {s s' : Nat → Fp} (hD : PF 100 D) (hh : PF 100 h) (h0 : δ * s' 0 = s 0) (h1 : δ * s' 1 = s 1 - s' 0) (h2 : δ * s' 2 = s 2 - s' 1)
    (heq : ∀ x, Nf x = ev s 3 (x + fi b) * D x + px (x + fi b) 3 * h x) : ∃ h', PF 100 h' ∧ ∀ x, Nf x = ev s' 3 (x + fi b) * (D x * (x + fi o)) + px (x + fi b) 3 * h' x := by
  refine ⟨fun x => h x - s' 2 * D x, hh.sub (hD.smul (s' 2)), fun x => ?_⟩
  rw [heq x, ← hδ]
  show (s 0 + (x + fi b) * (s 1 + (x + fi b) * (s 2 + (x + fi b) * 0))) * D x + 1 * (x + fi b) * (x + fi b) * (x + fi b) * h x = (s' 0 + (x + fi b) * (s' 1 + (x + fi b) * (s' 2 + (x + fi b) * 0))) * (D x * (x + (fi b + δ))) + 1 * (x + fi b) * (x + fi b) * (x + fi b) * (h x - s' 2 * D x)
  have g0 : s 0 = δ * s' 0 := h0.symm
  have g1 : s 1 = δ * s' 1 + s' 0 := by grobner
  have g2 : s 2 = δ * s' 2 + s' 1 := by grobner
  rw [g0, g1, g2]
  grobner
theorem wt_eq {b n : Nat} (hb : b < 9) (hn : n ≤ 3) {Nf B h H : Fp → Fp} {s t : Nat → Fp} (hB : PF 200 B) (hh : PF 200 h) (hH : PF 200 H) (hB0 : B (-fi b) ≠ 0)
    (h1 : ∀ x, Nf x = ev s 3 (x + fi b) * B x + px (x + fi b) 3 * h x) (h2 : ∀ x, Nf x = ev t n (x + fi b) * B x + px (x + fi b) n * H x) : ∀ i, i < n → s i = t i := by
  intro i hi
  have hk := ser_u (B := B) (h := fun x => ev (fun i => s (n + i)) (3 - n) (x + fi b) * B x + px (x + fi b) (3 - n) * h x - H x) (m := 500) hb (hB.mono (by omega))
    ((((((PF.evs (fun i => s (n + i)) (3 - n) (fi b)).mul hB).mono (m := 500) (by omega)).add (((PF.lpow (fi b) (3 - n)).mul hh).mono (m := 500) (by omega))).sub (hH.mono (m := 500) (by omega))).congr (fun x => rfl)) (by omega) hB0 n (fun i => s i + (-1) * t i) (by omega) (fun x _ => by
      have e1 := h1 x
      have e2 := h2 x
      have e3 := ev_split s n (3 - n) (x + fi b)
      rw [show n + (3 - n) = 3 by omega] at e3
      have e4 : px (x + fi b) 3 = px (x + fi b) n * px (x + fi b) (3 - n) := by
        rw [← px_add, show n + (3 - n) = 3 by omega]
      rw [ev_add s (fun i => (-1) * t i), ev_smul]
      grobner) i hi
  grobner
theorem PF.div {m : Nat} {R : Fp → Fp} (h : PF (m + 1) R) (b : Fp) : ∃ R', PF m R' ∧ ∀ x, R x = (x + b) * R' x + R (-b) := by
  obtain ⟨f, hf⟩ := h
  refine ⟨ev (dv (-b) f (m + 1)) m, ⟨_, fun _ => rfl⟩, fun x => ?_⟩
  have := ev_dv (-b) f (m + 1) x
  rw [Nat.add_sub_cancel] at this
  rw [hf x, hf (-b), this]
  grobner
theorem q_uni {b n : Nat} (hb : b < 9) {q1 q2 : Fp → Fp} {u v : Fp} (h1 : PF n q1) (h2 : PF n q2) (hn : n ≤ 9000) (h : ∀ x, (x + fi b) * q1 x + u = (x + fi b) * q2 x + v) (x : Fp) : q1 x = q2 x := by
  have h0 := h (-fi b)
  have huv : u = v := by grobner
  have := (h1.sub h2).null hn (fun y hy => by
    have h3 := h y
    refine fp_zero (x := y + fi b) ?_ (hy b hb)
    grobner) x
  grobner
theorem ch_step {b j c : Nat} (hb : b < 9) {f q D W R : Fp → Fp} {u : Fp} (hq : PF 200 q) (hD : PF 200 D) (hW : PF 200 W) (hj : j ≤ 10) (hc : j + c ≤ 100) (hR : PF (j + 1 + c) R) (h1 : ∀ x, f x = px (x + fi b) (j + 1) * D x * W x + R x) (h2 : ∀ x, f x = (x + fi b) * q x + u) : ∃ R', PF (j + c) R' ∧ ∀ x, q x = px (x + fi b) j * D x * W x + R' x := by
  obtain ⟨R', hR', hr⟩ := (hR.mono (m := j + c + 1) (by omega)).div (fi b)
  refine ⟨R', hR', fun x => ?_⟩
  refine q_uni (n := 1000) hb (u := u) (v := R (-fi b)) (q2 := fun x => px (x + fi b) j * D x * W x + R' x) (hq.mono (by omega)) ?_ (by omega) (fun y => ?_) x
  · exact ((((PF.lpow (fi b) j).mul hD).mul hW).mono (by omega)).add (hR'.mono (by omega))
  · rw [← h2, h1, hr y, px_s]
    grobner
def lfb (e : Nat → Nat) (b : Nat) : Nat → Nat := fun i => if i ≤ b then 0 else e i
theorem pp_lfb (e : Nat → Nat) (b x) : ∀ m, m ≤ b + 1 → pp (lfb e b) m x = 1 := by
  intro m
  induction m with
  | zero => intro _; rfl
  | succ m ih =>
    intro h
    show pp (lfb e b) m x * px (x + fi m) (lfb e b m) = 1
    rw [ih (by omega), show lfb e b m = 0 by unfold lfb; rw [if_pos (by omega)], px_0]
    grobner
theorem pp_mid (e : Nat → Nat) (b : Nat) (x : Fp) : ∀ m, b < m → pp (va_up e b 0) m x = pp e b x * pp (lfb e b) m x := by
  intro m
  induction m with
  | zero => intro h; omega
  | succ m ih =>
    intro h
    show pp (va_up e b 0) m x * px (x + fi m) (va_up e b 0 m) = pp e b x * (pp (lfb e b) m x * px (x + fi m) (lfb e b m))
    by_cases hm : b = m
    · subst hm
      rw [va_up_s, pp_ext (e := va_up e b 0) (f := e) (fun i hi => va_up_n (by omega)), pp_lfb e b x b (by omega), show lfb e b b = 0 by unfold lfb; rw [if_pos (by omega)], px_0]
      grobner
    · rw [ih (by omega), va_up_n (f := e) (k := b) (j := m) (v := 0) (fun z => hm z.symm), show lfb e b m = e m by unfold lfb; rw [if_neg (by omega)]]
      grobner
theorem sE_lfb (e : Nat → Nat) (b : Nat) : ∀ m, b < m → sE e b + e b + sE (lfb e b) m = sE e m := by
  have h0 : ∀ m, m ≤ b + 1 → sE (lfb e b) m = 0 := by
    intro m
    induction m with
    | zero => intro _; rfl
    | succ m ih =>
      intro h
      show sE (lfb e b) m + lfb e b m = 0
      rw [ih (by omega), show lfb e b m = 0 by unfold lfb; rw [if_pos (by omega)]]
  intro m
  induction m with
  | zero => intro h; omega
  | succ m ih =>
    intro h
    show sE e b + e b + (sE (lfb e b) m + lfb e b m) = sE e m + e m
    by_cases hm : b = m
    · subst hm
      rw [h0 b (by omega), show lfb e b b = 0 by unfold lfb; rw [if_pos (by omega)]]
      omega
    · have := ih (by omega)
      rw [show lfb e b m = e m by unfold lfb; rw [if_neg (by omega)]]
      omega
def Stg (e : Nat → Nat) (Wf : Nat → Fp → Fp) (T : Nat → Nat → Fp) : Prop := ∀ b, b < 8 → ∀ x, Wf b x = ev (T b) (e b) (x + fi b) * pp (lfb e b) 8 x + px (x + fi b) (e b) * Wf (b + 1) x
theorem stg_a {e : Nat → Nat} {Wf : Nat → Fp → Fp} {T : Nat → Nat → Fp} (he : ∀ i, e i ≤ 3) (hs : Stg e Wf T) : ∀ b b', b ≤ b' → b' < 8 → ∃ H, PF 200 H ∧ ∀ x, Wf 0 x = pp e b x * Wf b x + px (x + fi b') (e b') * H x := by
  have hsE : ∀ (f : Nat → Nat) m, (∀ i, f i ≤ 3) → sE f m ≤ 3 * m := by
    intro f m hf
    induction m with
    | zero => exact Nat.le_refl _
    | succ m ih => have := hf m; show sE f m + f m ≤ _; omega
  intro b
  induction b with
  | zero =>
    intro b' _ _
    refine ⟨fun _ => 0, PF.zero _, fun x => ?_⟩
    show _ = 1 * Wf 0 x + _
    grobner
  | succ b ih =>
    intro b' h1 h2
    obtain ⟨H, hH, heq⟩ := ih b' (by omega) h2
    have hf : ∀ i, va_up (lfb e b) b' 0 i ≤ 3 := by
      intro i
      unfold va_up lfb
      split
      · omega
      · split
        · omega
        · exact he i
    refine ⟨fun x => H x + pp e b x * ev (T b) (e b) (x + fi b) * pp (va_up (lfb e b) b' 0) 8 x, ?_, fun x => ?_⟩
    · have k1 := hsE e b he
      have k2 := hsE _ 8 hf
      have k3 := he b
      refine hH.add ((((PF.ppf e b).mul (PF.evs (T b) (e b) (fi b))).mul (PF.ppf (va_up (lfb e b) b' 0) 8)).mono (by omega))
    · rw [heq x, hs b (by omega) x]
      show _ = pp e b x * px (x + fi b) (e b) * Wf (b + 1) x + _
      rw [pp_out (e := lfb e b) (b := b') h2 x, show lfb e b b' = e b' by unfold lfb; rw [if_neg (by omega)]]
      grobner
theorem stg_b {e : Nat → Nat} {Wf : Nat → Fp → Fp} {T : Nat → Nat → Fp} (hs : Stg e Wf T) : ∀ b, b ≤ 8 → ∃ R, PF (sE e 8) R ∧ ∀ x, Wf 0 x = pp e b x * Wf b x + R x := by
  intro b
  induction b with
  | zero =>
    intro _
    refine ⟨fun _ => 0, PF.zero _, fun x => ?_⟩
    show _ = 1 * Wf 0 x + _
    grobner
  | succ b ih =>
    intro h1
    obtain ⟨R, hR, heq⟩ := ih (by omega)
    refine ⟨fun x => R x + pp e b x * pp (lfb e b) 8 x * ev (T b) (e b) (x + fi b), ?_, fun x => ?_⟩
    · have k := sE_lfb e b 8 (by omega)
      refine hR.add (((((PF.ppf e b).mulT (PF.ppf (lfb e b) 8)).mono (m := sE e b + sE (lfb e b) 8 + 1) (by omega)).mulT (PF.evs (T b) (e b) (fi b))).mono (by omega))
    · rw [heq x, hs b (by omega) x]
      show _ = pp e b x * px (x + fi b) (e b) * Wf (b + 1) x + _
      grobner
theorem stg_w {e : Nat → Nat} {Wf : Nat → Fp → Fp} {T : Nat → Nat → Fp} (he : ∀ i, e i ≤ 3) (hs : Stg e Wf T) (hW : ∀ b, PF 80 (Wf b)) {b : Nat} (hb : b < 8) {s : Nat → Fp} {h : Fp → Fp} (hh : PF 100 h)
    (h1 : ∀ x, Wf 0 x = ev s 3 (x + fi b) * pp (va_up e b 0) 8 x + px (x + fi b) 3 * h x) : ∀ i, i < e b → s i = T b i := by
  have hsE : ∀ (f : Nat → Nat) m, (∀ i, f i ≤ 3) → sE f m ≤ 3 * m := by
    intro f m hf
    induction m with
    | zero => exact Nat.le_refl _
    | succ m ih => have := hf m; show sE f m + f m ≤ _; omega
  obtain ⟨H, hH, heq⟩ := stg_a he hs b b (Nat.le_refl _) hb
  have hf : ∀ i, va_up e b 0 i ≤ 3 := by
    intro i
    unfold va_up
    split
    · omega
    · exact he i
  have k1 := hsE e b he
  have k2 := hsE _ 8 hf
  refine wt_eq (h := h) (H := fun x => pp e b x * Wf (b + 1) x + H x) (by omega) (he b) ((PF.ppf (va_up e b 0) 8).mono (by omega)) (hh.mono (by omega)) ((((PF.ppf e b).mul (hW (b + 1))).mono (by omega)).add hH) ?_ h1 (fun x => ?_)
  · refine pp_ne (fun o ho h0 => ?_)
    have hne : o ≠ b := fun z => h0 (by rw [z, va_up_s])
    intro hz
    have : fi o = fi b := by grobner
    exact hne (fi_inj (by omega) (by omega) this)
  · rw [heq x, hs b hb x, pp_mid e b x 8 hb]
    grobner
def yv (W : Fp → Fp) (back : Fp) : Nat → Fp
  | 0 => 0
  | j + 1 => (yv W back j + W (fi j)) * back
theorem yv_x {z back : Fp} (hz : z * back = 1) {X W : Fp → Fp} (h : ∀ x, z * X (x + 1) - X x = W x) (j : Nat) : X (fi j) = yv W back j + X 0 * px back j := by
  induction j with
  | zero =>
    show X 0 = 0 + X 0 * px back 0
    rw [px_0]
    grobner
  | succ j ih =>
    have h1 := h (fi j)
    rw [fi_add, fi_1]
    show _ = (yv W back j + W (fi j)) * back + X 0 * px back (j + 1)
    rw [px_s]
    grobner
theorem yv_df {z back : Fp} (hz : z * back = 1) {X W : Fp → Fp} (h : ∀ x, z * X (x + 1) - X x = W x) (i : Nat) : df (fun j => X (fi j)) i 0 = df (yv W back) i 0 + X 0 * px (back - 1) i := by
  have e : (fun j => X (fi j)) = (fun j => yv W back j + X 0 * px back j) := by
    funext j
    exact yv_x hz h j
  rw [e, df_lin (yv W back) (fun j => px back j) (X 0) i 0, df_pow, px_0]
  grobner
theorem slv_1 {X W : Fp → Fp} (hX : PF 33 X) (h0 : X 0 = 0) (h : ∀ x, 1 * X (x + 1) - X x = W x) (x : Fp) : nw (fun m => df (yv W 1) m 0 * inv (fc m)) 33 x = X x := by
  refine PF.eqn (n := 33) (PF.newt _ _) hX (by omega) (fun j hj => ?_) x
  have e : (fun m => df (yv W 1) m 0 * inv (fc m)) = nc (fun j => X (fi j)) := by
    funext m
    unfold nc
    rw [yv_df (z := 1) (back := 1) (by grobner) h m, h0]
    grobner
  rw [e, newton j 32 _ (by omega) (by omega)]
theorem slv_z {z back : Fp} (hz : z * back = 1) (h1 : z ≠ 1) {X W : Fp → Fp} (hX : PF 32 X) (h : ∀ x, z * X (x + 1) - X x = W x) (x : Fp) : nw (fun m => (df (yv W back) m 0 + (-df (yv W back) 32 0) * inv (px (back - 1) 32) * px (back - 1) m) * inv (fc m)) 33 x = X x := by
  have hb : back - 1 ≠ 0 := by
    intro hb
    exact h1 (by grobner)
  have h32 := df_deg hX (by omega)
  have hd := yv_df hz h 32
  rw [h32] at hd
  have hi := mul_inv (pow_ne hb 32)
  have hx0 : (-df (yv W back) 32 0) * inv (px (back - 1) 32) = X 0 := by grobner
  refine PF.eqn (n := 33) (PF.newt _ _) (hX.mono (by omega)) (by omega) (fun j hj => ?_) x
  have e : (fun m => (df (yv W back) m 0 + (-df (yv W back) 32 0) * inv (px (back - 1) 32) * px (back - 1) m) * inv (fc m)) = nc (fun j => X (fi j)) := by
    funext m
    unfold nc
    rw [yv_df hz h m, hx0]
  rw [e, newton j 32 _ (by omega) (by omega)]
end
section
def tp (f : Nat → Nat) : Nat → Nat
  | 0 => 0
  | n + 1 => if f n = 0 then tp f n else n + 1
theorem tp_le (f : Nat → Nat) (n : Nat) : tp f n ≤ n := by
  induction n with
  | zero => exact Nat.le_refl _
  | succ n ih => unfold tp; split <;> omega
theorem tp_z {f : Nat → Nat} {n i : Nat} (h1 : tp f n ≤ i) (h2 : i < n) : f i = 0 := by
  induction n with
  | zero => omega
  | succ n ih =>
    unfold tp at h1
    split at h1
    · by_cases e : i = n
      · subst e; assumption
      · exact ih h1 (by omega)
    · omega
theorem tp_nz {f : Nat → Nat} {n : Nat} (h : 0 < tp f n) : f (tp f n - 1) ≠ 0 := by
  induction n with
  | zero => exact absurd h (Nat.lt_irrefl 0)
  | succ n ih =>
    unfold tp at h ⊢
    split
    · next e => rw [if_pos e] at h; exact ih h
    · exact fun z => by simp at z; contradiction
theorem tp_ext {f g : Nat → Nat} {n : Nat} (h : ∀ i, i < n → f i = g i) : tp f n = tp g n := by
  induction n with
  | zero => rfl
  | succ n ih =>
    unfold tp
    rw [h n (by omega), ih (fun i hi => h i (by omega))]
theorem tp_eq {f : Nat → Nat} {n t : Nat} (ht : t ≤ n) (hz : ∀ i, t ≤ i → i < n → f i = 0) (hn : 0 < t → f (t - 1) ≠ 0) : tp f n = t := by
  rcases Nat.lt_trichotomy (tp f n) t with h | h | h
  · exact absurd (tp_z (f := f) (n := n) (i := t - 1) (by omega) (by omega)) (hn (by omega))
  · exact h
  · have := tp_le f n
    exact absurd (hz (tp f n - 1) (by omega) (by omega)) (tp_nz (by omega))
theorem tp_more {f : Nat → Nat} {n : Nat} (m : Nat) (hz : ∀ i, n ≤ i → f i = 0) : tp f (n + m) = tp f n :=
  tp_eq (by have := tp_le f n; omega) (fun i h1 h2 => by
    by_cases h : i < n
    · exact tp_z h1 h
    · exact hz i (by omega)) (fun h => tp_nz h)
def okP (n : Nat) (f : Nat → Nat) : Prop := (∀ i, f i < 10007) ∧ ∀ i, n ≤ i → f i = 0
theorem okP.mono {n m : Nat} {f : Nat → Nat} (h : okP n f) (hm : n ≤ m) : okP m f := ⟨h.1, fun i hi => h.2 i (by omega)⟩
theorem okP.tz {n : Nat} {f : Nat → Nat} (h : okP n f) {i : Nat} (hi : tp f n ≤ i) : f i = 0 := by
  by_cases h1 : i < n
  · exact tp_z hi h1
  · exact h.2 i (by omega)
def cut (n : Nat) (f : Nat → Nat) : Nat → Nat := fun i => if i < n then f i else 0
theorem cut_id {n : Nat} {f : Nat → Nat} (h : ∀ i, n ≤ i → f i = 0) : cut n f = f := by
  funext i
  unfold cut
  split
  · rfl
  · rw [h i (by omega)]
theorem tp_cut (f : Nat → Nat) (n : Nat) : tp (cut n f) n = tp f n := tp_ext (fun i hi => by simp [cut, hi])
def hn (f : Nat → Nat) (x : Nat) : Nat → Nat → Nat
  | 0, _ => 0
  | m + 1, i => (hn f x m (i + 1) * x + f i) % 10007
theorem hn_lt (f : Nat → Nat) (x m i : Nat) : hn f x m i < 10007 := by
  cases m with
  | zero => exact (by decide : 0 < 10007)
  | succ m => exact Nat.mod_lt _ (by decide)
theorem hn_ext {f g : Nat → Nat} {x m i : Nat} (h : ∀ j, i ≤ j → j < i + m → f j = g j) : hn f x m i = hn g x m i := by
  induction m generalizing i with
  | zero => rfl
  | succ m ih =>
    unfold hn
    rw [ih (fun j h1 h2 => h j (by omega) (by omega)), h i (by omega) (by omega)]
theorem hn_0 {f : Nat → Nat} {x m i : Nat} (h : ∀ j, i ≤ j → f j = 0) : hn f x m i = 0 := by
  induction m generalizing i with
  | zero => rfl
  | succ m ih =>
    unfold hn
    rw [ih (fun j h1 => h j (by omega)), h i (by omega)]
    simp
theorem hn_more {f : Nat → Nat} {x m k i : Nat} (h : ∀ j, i + m ≤ j → f j = 0) : hn f x (m + k) i = hn f x m i := by
  induction m generalizing i with
  | zero => rw [Nat.zero_add]; exact hn_0 (fun j hj => h j (by omega))
  | succ m ih =>
    rw [show m + 1 + k = (m + k) + 1 by omega]
    unfold hn
    rw [ih (fun j hj => h j (by omega))]
theorem hn_le {f : Nat → Nat} {x m k i : Nat} (hk : m ≤ k) (h : ∀ j, i + m ≤ j → f j = 0) : hn f x k i = hn f x m i := by
  rw [show k = m + (k - m) by omega]
  exact hn_more h
theorem hn_fi (f : Nat → Nat) (x m i : Nat) : fi (hn f x m i) = ev (fun j => fi (f (i + j))) m (fi x) := by
  induction m generalizing i with
  | zero => rfl
  | succ m ih =>
    unfold hn
    rw [fi_mod, fi_add, fi_mul, ih]
    simp only [ev, Nat.add_zero]
    rw [ev_ext (f := fun j => fi (f (i + (j + 1)))) (g := fun j => fi (f (i + 1 + j))) (fun j _ => by rw [show i + (j + 1) = i + 1 + j by omega])]
    grobner
def pv (f : Nat → Nat) (n : Nat) (x : Fp) : Fp := ev (fun j => fi (f j)) n x
theorem hn_pv (f : Nat → Nat) (x n : Nat) : fi (hn f x n 0) = pv f n (fi x) := by
  rw [hn_fi]
  exact ev_ext (fun j _ => by rw [Nat.zero_add]) _
theorem pv_le {f : Nat → Nat} {n m : Nat} (hm : n ≤ m) (h : ∀ i, n ≤ i → f i = 0) (x : Fp) : pv f m x = pv f n x :=
  ev_le hm (fun i hi => by rw [h i hi]; rfl) x
theorem pv_eq {f g : Nat → Nat} {n : Nat} (hn : n ≤ 9000) (hf : okP n f) (hg : okP n g) (h : ∀ x, npl x → pv f n x = pv g n x) : f = g := by
  funext i
  by_cases hi : i < n
  · exact fi_inj (hf.1 i) (hg.1 i) (ev_eq hn h i hi)
  · rw [hf.2 i (by omega), hg.2 i (by omega)]
def mt (n b : Nat) (f : Nat → Nat) : Nat → Nat := fun i => if i < n then (f i * b + (if i = 0 then 0 else f (i - 1))) % 10007 else 0
def mtN (n b : Nat) : Nat → (Nat → Nat) → Nat → Nat
  | 0, f => f
  | t + 1, f => mtN n b t (mt n b f)
theorem mt_ok (n b : Nat) (f : Nat → Nat) : okP n (mt n b f) := by
  refine ⟨fun i => ?_, fun i hi => ?_⟩
  · unfold mt
    split
    · exact Nat.mod_lt _ (by decide)
    · decide
  · unfold mt
    rw [if_neg (by omega)]
theorem mtN_ok {n b t : Nat} {f : Nat → Nat} (h : okP n f) : okP n (mtN n b t f) := by
  induction t generalizing f with
  | zero => exact h
  | succ t ih => exact ih (mt_ok n b f)
def dq (n r : Nat) (f : Nat → Nat) : Nat → Nat := fun i => hn f r (n - (i + 1)) (i + 1)
theorem dq_ok (n r : Nat) (f : Nat → Nat) : okP n (dq n r f) := by
  refine ⟨fun i => hn_lt _ _ _ _, fun i hi => ?_⟩
  unfold dq
  rw [show n - (i + 1) = 0 by omega]
  rfl
def lin (a b : Nat) : Nat → Nat := fun i => if i = 0 then b else if i = 1 then a else 0
theorem lin_ok {n a b : Nat} (ha : a < 10007) (hb : b < 10007) (hn : 2 ≤ n) : okP n (lin a b) := by
  refine ⟨fun i => ?_, fun i hi => ?_⟩
  · unfold lin
    split
    · exact hb
    · split
      · exact ha
      · decide
  · unfold lin
    rw [if_neg (by omega), if_neg (by omega)]
theorem pv_mt {n m b : Nat} {f : Nat → Nat} (hm : m + 1 ≤ n) (h : ∀ i, m ≤ i → f i = 0) (x : Fp) : pv (mt n b f) n x = (x + fi b) * pv f n x := by
  rw [pv_le (m := n) (n := m) (by omega) h]
  unfold pv
  rw [← ev_mx (b := fi b) (f := fun j => fi (f j)) (n := m) (fun i hi => by rw [h i hi]; rfl)]
  have e : ∀ i, i < n → fi (mt n b f i) = mx (fi b) (fun j => fi (f j)) i := by
    intro i hi
    unfold mt mx
    rw [if_pos hi, fi_mod, fi_add, fi_mul]
    by_cases h0 : i = 0
    · rw [if_pos h0, if_pos h0, fi_0]
      grobner
    · rw [if_neg h0, if_neg h0]
      grobner
  rw [ev_ext e, ev_le (n := m + 1) hm (fun i hi => by
    show fi b * fi (f i) + (if i = 0 then 0 else fi (f (i - 1))) = 0
    rw [h i (by omega), if_neg (by omega), h (i - 1) (by omega), fi_0]
    grobner)]
theorem pv_dq (n r : Nat) (f : Nat → Nat) (h : ∀ i, n ≤ i → f i = 0) (x : Fp) : pv f n x = (x - fi r) * pv (dq n r f) n x + pv f n (fi r) := by
  unfold pv
  rw [ev_dv (fi r) (fun j => fi (f j)) n x]
  have e : ∀ i, fi (dq n r f i) = dv (fi r) (fun j => fi (f j)) n i := by
    intro i
    unfold dq dv
    rw [hn_fi]
  rw [ev_ext (f := fun j => fi (dq n r f j)) (g := dv (fi r) (fun j => fi (f j)) n) (fun i _ => e i)]
  cases n with
  | zero => rfl
  | succ n =>
    rw [Nat.add_sub_cancel, ev_le (f := dv (fi r) (fun j => fi (f j)) (n + 1)) (n := n) (m := n + 1) (by omega) (fun i hi => by
      unfold dv
      rw [show n + 1 - (i + 1) = 0 by omega]
      rfl)]
end
section
abbrev iPoly : Nat := 0
abbrev iTerm : Nat := 1
abbrev iComb : Nat := 2
abbrev iSplit : Nat := 3
abbrev iDesk : Nat := 4
abbrev iModel : Nat := 5
def Out (S S' : Sg) (q w : Nat) : Prop := ∀ a, (a < q ∨ q + w ≤ a) → S'.1 a = S.1 a ∧ S'.2 a = S.2 a
theorem Out.rf (S : Sg) (q w : Nat) : Out S S q w := fun _ _ => ⟨rfl, rfl⟩
theorem Out.trans {S S1 S2 : Sg} {q w : Nat} (h1 : Out S S1 q w) (h2 : Out S1 S2 q w) : Out S S2 q w := fun a ha => ⟨(h2 a ha).1.trans (h1 a ha).1, (h2 a ha).2.trans (h1 a ha).2⟩
theorem Out.wide {S S1 : Sg} {q w q' w' : Nat} (h : Out S S1 q w) (h1 : q' ≤ q) (h2 : q + w ≤ q' + w') : Out S S1 q' w' := fun a ha => h a (by omega)
theorem Out.fd {S : Sg} {q w a : Nat} {x : Int32} (h1 : q ≤ a) (h2 : a < q + w) : Out S (fdS S a x) q w := fun b hb => ⟨rfl, fdS_2n (by omega)⟩
theorem Out.ar {S : Sg} {q w a : Nat} {f : Nat → Nat} (h1 : q ≤ a) (h2 : a < q + w) : Out S (arS S a f) q w := fun b hb => ⟨arS_1n (by omega), rfl⟩
theorem Out.a1 {S S1 : Sg} {q w a : Nat} (h : Out S S1 q w) (ha : a < q ∨ q + w ≤ a) : S1.1 a = S.1 a := (h a ha).1
theorem Out.a2 {S S1 : Sg} {q w a : Nat} (h : Out S S1 q w) (ha : a < q ∨ q + w ≤ a) : S1.2 a = S.2 a := (h a ha).2
def isP (G : Gm) (q n : Nat) : Prop := G q = some (kObj iPoly (fun v => [.ref (q + 1), .int v])) ∧ G (q + 1) = some (kArr n) ∧ 2 ≤ n ∧ n ≤ 64
def isT (G : Gm) (t n : Nat) : Prop := G t = some (kObj iTerm (fun v => [.ref (t + 1), .ref (t + 3), .int v])) ∧ isP G (t + 1) n ∧ G (t + 3) = some (kArr 9)
def tI (t : Nat) : Int32 := nI t - nI 1
theorem tI_s (t : Nat) : tI (t + 1) = nI t := nI_pred t
theorem tI_0 : tI 0 < 0 := by decide
theorem tI_n (t : Nat) : nI t - nI 1 = tI t := rfl
def pIs (S : Sg) (q n : Nat) (f : Nat → Nat) : Prop := S.1 (q + 1) = f ∧ S.2 q = tI (tp f n)
theorem pIs.out {S S1 : Sg} {q n a w : Nat} {f : Nat → Nat} (h : pIs S q n f) (ho : Out S S1 a w) (hd : q + 2 ≤ a ∨ a + w ≤ q) : pIs S1 q n f :=
  ⟨(ho.a1 (by omega)).trans h.1, (ho.a2 (by omega)).trans h.2⟩
theorem kObj_ne {G : Gm} {a b ci cj : Nat} {F F' : Int32 → List Value} (h1 : G a = some (kObj ci F)) (h2 : G b = some (kObj cj F')) (h : ci ≠ cj) : a ≠ b := by
  intro e
  subst e
  rw [h1] at h2
  have := Option.some.inj h2
  unfold kObj at this
  have := Prod.mk.inj (Sum.inl.inj (Sum.inr.inj this))
  exact h this.1
theorem kArr_ne {G : Gm} {a b ci n : Nat} {F : Int32 → List Value} (h1 : G a = some (kObj ci F)) (h2 : G b = some (kArr n)) : a ≠ b := by
  intro e
  subst e
  rw [h1] at h2
  have := Option.some.inj h2
  unfold kObj kArr at this
  cases this
theorem isP.sep {G : Gm} {q q' n n' : Nat} (h1 : isP G q n) (h2 : isP G q' n') (h : q ≠ q') : q + 2 ≤ q' ∨ q' + 2 ≤ q := by
  have a1 := kArr_ne h1.1 h2.2.1
  have a2 := kArr_ne h2.1 h1.2.1
  omega
theorem isT.sep {G : Gm} {t u n n' : Nat} (h1 : isT G t n) (h2 : isT G u n') (h : t ≠ u) : t + 4 ≤ u ∨ u + 4 ≤ t := by
  have a1 := kObj_ne h1.1 h2.2.1.1 (by decide)
  have a2 := kObj_ne h2.1 h1.2.1.1 (by decide)
  have a3 := kArr_ne h1.1 h2.2.1.2.1
  have a4 := kArr_ne h2.1 h1.2.1.2.1
  have a5 := kArr_ne h1.1 h2.2.2
  have a6 := kArr_ne h2.1 h1.2.2
  omega
theorem wl_trunc {cI : ClassId} {G : Gm} {S : Sg} {H : Heap} {E : Ev} {a n : Nat} {f : Nat → Nat} (hG : G a = some (kArr n)) (hf : ∀ i, i < n → f i = S.1 a i) (h : wP E G (arS S a f) H) : wP E G S H := by
  intro q e he
  by_cases hq : q = a
  · subst hq
    have h1 := h q _ (wl_arr hG)
    rw [wl_arr hG] at he
    cases he
    show H[q]? = some (vp_cell _ _)
    have h2 : H[q]? = some (vp_cell (eI E) (n, .inl (fun i => nI ((arS S q f).1 q i)))) := h1
    rw [h2, arS_1]
    congr 1
    rw [vp_cell_i, vp_cell_i]
    unfold arrV
    congr 1
    apply congrArg Array.ofFn
    funext j
    show Value.int (nI (f j.val)) = Value.int (nI (S.1 q j.val))
    rw [hf j.val j.isLt]
  · have h1 : wl (eI E) G (arS S a f) q = wl (eI E) G S q := by
      unfold wl
      rw [arS_1n hq, arS_2]
    exact h q e (h1.trans he)
theorem wl_trunc' {G : Gm} {S : Sg} {H : Heap} {E : Ev} {a n : Nat} {f : Nat → Nat} (hG : G a = some (kArr n)) (hf : ∀ i, i < n → f i = S.1 a i) (h : wP E G S H) : wP E G (arS S a f) H := by
  refine wl_trunc (cI := eI E) (S := arS S a f) (f := S.1 a) hG (fun i hi => by rw [arS_1, hf i hi]) ?_
  rw [arS_arS, arS_id]
  exact h
theorem r_trunc {E : Ev} {G : Gm} {own : String} {cc : ByteArray} {nL k : Nat} {J : Jt} {S : Sg} {pc : Nat} {L : List (Option Value)} {st : List Value} (X : Cx E G own cc nL k J) {a n : Nat} {f : Nat → Nat} (hG : G a = some (kArr n)) (hf : ∀ i, i < n → f i = S.1 a i) (kk : J (arS S a f) pc L st) : J S pc L st := by
  obtain ⟨p, e, R, s, m, args, below, meth, c, A, sz, n1, n2, Q, ⟨hx, hb, hml, hown, hts⟩, hK, hN, hR, hE, hA, rfl⟩ := X
  intro H locs ls hP hz hS hl
  exact kk H locs ls (wl_trunc' hG hf hP) hz hS hl
theorem mul_bd {a b : Nat} (ha : a < 10007) (hb : b < 10007) : a * b ≤ 100120036 := Nat.mul_le_mul (show a ≤ 10006 by omega) (show b ≤ 10006 by omega)
def em (x : Int32) : Nat := (x.toInt % 10007).toNat
theorem rem_p (x : Int32) : (x - x / nI 10007 * nI 10007).toInt = if 0 ≤ x.toInt then x.toInt % 10007 else -((-x.toInt) % 10007) := by
  have h7 : (nI 10007).toInt = 10007 := by decide
  have hd : (x / nI 10007).toInt = x.toInt.tdiv 10007 := by
    rw [Int32.toInt_div_of_ne_right _ _ (by decide), h7]
  have l1 := x.le_toInt
  have l2 := x.toInt_lt
  rw [Int32.toInt_sub, Int32.toInt_mul, hd, h7]
  by_cases h : 0 ≤ x.toInt
  · rw [if_pos h, Int.tdiv_eq_ediv_of_nonneg h]
    have e : (x.toInt / 10007 * 10007).bmod (2 ^ 32) = x.toInt / 10007 * 10007 := by
      unfold Int.bmod
      simp only
      split <;> omega
    rw [e]
    unfold Int.bmod
    simp only
    split <;> omega
  · rw [if_neg h]
    have e0 : x.toInt.tdiv 10007 = -((-x.toInt) / 10007) := by
      rw [← Int.tdiv_eq_ediv_of_nonneg (a := -x.toInt) (b := 10007) (by omega), Int.neg_tdiv]
      omega
    rw [e0]
    have e : (-(-x.toInt / 10007) * 10007).bmod (2 ^ 32) = -(-x.toInt / 10007) * 10007 := by
      unfold Int.bmod
      simp only
      split <;> omega
    rw [e]
    unfold Int.bmod
    simp only
    split <;> omega
theorem neg_iff_msb (x : Int32) : x < 0 ↔ x.toBitVec.msb = true := by
  rw [Int32.lt_iff_toInt_lt, BitVec.msb_eq_toInt, Int32.toInt_toBitVec]
  simp
theorem xor_neg (a b : Int32) : (a ^^^ b) < 0 ↔ ¬ (a < 0 ↔ b < 0) := by
  rw [neg_iff_msb, neg_iff_msb, neg_iff_msb, Int32.toBitVec_xor, BitVec.msb_xor]
  cases a.toBitVec.msb <;> cases b.toBitVec.msb <;> simp
theorem i32_ext {a b : Int32} (h : a.toInt = b.toInt) : a = b := Int32.toInt_inj.mp h
theorem em_lt (x : Int32) : em x < 10007 := by
  unfold em
  omega
theorem em_nI {n : Nat} (h : n < 2 ^ 31) : em (nI n) = n % 10007 := by
  unfold em
  rw [nI_toInt h]
  omega
theorem em_sub {a b : Nat} (ha : a < 10007) (hb : b < 10007) : em (nI a - nI b) = (a + (10007 - b)) % 10007 := by
  unfold em
  rw [pk_sub_toInt (by omega) (by omega)]
  omega
theorem nI_neg {n : Nat} (h : n < 2 ^ 31) : (-nI n).toInt = -(n : Int) := sb_negT h
theorem em_neg {n : Nat} (h : n < 10007) : em (-nI n) = (10007 - n) % 10007 := by
  unfold em
  rw [nI_neg (by omega)]
  omega
theorem rem_neg {x : Int32} (h : x - x / nI 10007 * nI 10007 < 0) : x - x / nI 10007 * nI 10007 + nI 10007 = nI (em x) := by
  have h1 := rem_p x
  rw [Int32.lt_iff_toInt_lt, Int32.toInt_zero] at h
  have h7 : (nI 10007).toInt = 10007 := by decide
  apply i32_ext
  rw [Int32.toInt_add, h7, nI_toInt (by have := em_lt x; omega)]
  unfold em
  split at h1
  · omega
  · rw [h1]
    unfold Int.bmod
    simp only
    split <;> omega
theorem rem_pos {x : Int32} (h : ¬ x - x / nI 10007 * nI 10007 < 0 ∨ x - x / nI 10007 * nI 10007 = 0) : x - x / nI 10007 * nI 10007 = nI (em x) := by
  have h1 := rem_p x
  apply i32_ext
  rw [nI_toInt (by have := em_lt x; omega)]
  rcases h with h | h
  · rw [Int32.lt_iff_toInt_lt, Int32.toInt_zero] at h
    unfold em
    split at h1 <;> omega
  · rw [h, Int32.toInt_zero] at h1
    rw [h, Int32.toInt_zero]
    unfold em
    split at h1 <;> omega
theorem p_nneg : ¬ nI 10007 < 0 := by decide
theorem rem_cases (x : Int32) : ((x ^^^ nI 10007) < 0 → x - x / nI 10007 * nI 10007 ≠ 0 → x - x / nI 10007 * nI 10007 + nI 10007 = nI (em x)) ∧ ((¬ (x ^^^ nI 10007) < 0 ∨ x - x / nI 10007 * nI 10007 = 0) → x - x / nI 10007 * nI 10007 = nI (em x)) := by
  have h1 := rem_p x
  refine ⟨fun h h0 => rem_neg ?_, fun h => rem_pos ?_⟩
  · rw [xor_neg] at h
    have hx : x < 0 := Decidable.byContradiction (fun z => h (iff_of_false z p_nneg))
    rw [Int32.lt_iff_toInt_lt, Int32.toInt_zero] at hx ⊢
    have h2 : (x - x / nI 10007 * nI 10007).toInt ≠ 0 := fun z => h0 (i32_ext (by rw [z, Int32.toInt_zero]))
    rw [if_neg (by omega)] at h1
    omega
  · rcases h with h | h
    · left
      rw [xor_neg] at h
      have hx : ¬ x < 0 := fun z => h (fun q => p_nneg (q.mp z))
      rw [Int32.lt_iff_toInt_lt, Int32.toInt_zero] at hx ⊢
      rw [if_pos (by omega)] at h1
      omega
    · exact Or.inr h
theorem tp_zero (n : Nat) : tp (fun _ => 0) n = 0 := tp_eq (by omega) (fun _ _ _ => rfl) (fun h => by omega)
theorem m1_tI : (-1 : Int32) = tI 0 := by decide
end
section
theorem up_lt {α : Type} (g f : Nat → α) (i : Nat) : va_up (fun j => if j < i then g j else f j) i (g i) = fun j => if j < i + 1 then g j else f j := by
  funext j
  unfold va_up
  by_cases h : j = i
  · subst h
    simp
  · by_cases h2 : j < i
    · simp [h, h2, Nat.lt_succ_of_lt h2]
    · have h3 : ¬ j < i + 1 := by omega
      simp [h, h2, h3]
theorem up_ge {α : Type} (g f : Nat → α) (i : Nat) : va_up (fun j => if i + 1 ≤ j then g j else f j) i (g i) = fun j => if i ≤ j then g j else f j := by
  funext j
  unfold va_up
  by_cases h : j = i
  · subst h
    simp
  · by_cases h2 : i + 1 ≤ j
    · have h3 : i ≤ j := by omega
      simp [h, h2, h3]
    · have h3 : ¬ i ≤ j := by omega
      simp [h, h2, h3]
theorem if_lt0 {α : Type} (g f : Nat → α) : (fun j => if j < 0 then g j else f j) = f := by
  funext j
  simp
section R2
variable {E : Ev} {G : Gm} {own : String} {cc : ByteArray} {nL k : Nat} {J : Jt} {S : Sg} {pc : Nat} {L : List (Option Value)} {st : List Value}
theorem r_iincN (X : Cx E G own cc nL k J) {i : Nat} {n : Int} {a : Nat} (b : Nat) (d : decode cc pc = .ok (.iinc i n, 3)) (h : L[i]? = some (some (.int (nI a)))) (hn : Int32.ofInt n = nI b) (hi : i < nL) (kk : J S (pc + 3) (L.set i (some (.int (nI (a + b))))) st) : J S pc L st :=
  r_iinc X d h (by rw [hn, nI_add]) hi kk
theorem nI_m1 (a : Nat) : nI a + Int32.ofInt (-1) = tI a := by
  unfold tI
  rw [Int32.sub_eq_add_neg]
  congr 1
theorem r_iincD (X : Cx E G own cc nL k J) {i : Nat} {a : Nat} (d : decode cc pc = .ok (.iinc i (-1), 3)) (h : L[i]? = some (some (.int (nI a)))) (hi : i < nL) (kk : J S (pc + 3) (L.set i (some (.int (tI a)))) st) : J S pc L st :=
  r_iinc X d h (nI_m1 a) hi kk
theorem tI_add (t : Nat) : tI t + nI 1 = nI t := by
  unfold tI
  rw [Int32.sub_eq_add_neg, Int32.add_assoc, Int32.add_comm (-nI 1), Int32.add_right_neg, Int32.add_zero]
theorem tI_toInt {t : Nat} (h : t < 2 ^ 30) : (tI t).toInt = (t : Int) - 1 := by
  have := pk_sub_toInt (a := t) (b := 1) h (by decide)
  exact this
theorem r_icmp_geT (X : Cx E G own cc nL k J) {a t : Nat} {off : Int} {tgt : Nat} (d : decode cc pc = .ok (.if_icmp .ge off, 3)) (ht : (pc : Int) + off = (tgt : Int)) (ha : a < 2 ^ 30) (hb : t < 2 ^ 30) (kt : t ≤ a + 1 → J S tgt L st) (kf : a + 1 < t → J S (pc + 3) L st) : J S pc L (.int (tI t) :: .int (nI a) :: st) := by
  have e1 := tI_toInt hb
  have e2 := nI_toInt (n := a) (by omega)
  refine r_icmp_ge X d ht (fun h => kt ?_) (fun h => kf ?_)
  · rw [Int32.le_iff_toInt_le, e1, e2] at h; omega
  · rw [Int32.le_iff_toInt_le, e1, e2] at h; omega
theorem r_icmp_gtT (X : Cx E G own cc nL k J) {a t : Nat} {off : Int} {tgt : Nat} (d : decode cc pc = .ok (.if_icmp .gt off, 3)) (ht : (pc : Int) + off = (tgt : Int)) (ha : a < 2 ^ 30) (hb : t < 2 ^ 30) (kt : t ≤ a → J S tgt L st) (kf : a < t → J S (pc + 3) L st) : J S pc L (.int (tI t) :: .int (nI a) :: st) := by
  have e1 := tI_toInt hb
  have e2 := nI_toInt (n := a) (by omega)
  refine r_icmp_gt X d ht (fun h => kt ?_) (fun h => kf ?_)
  · rw [Int32.lt_iff_toInt_lt, e1, e2] at h; omega
  · rw [Int32.lt_iff_toInt_lt, e1, e2] at h; omega
theorem r_icmp_eqT (X : Cx E G own cc nL k J) {a t : Nat} {off : Int} {tgt : Nat} (d : decode cc pc = .ok (.if_icmp .eq off, 3)) (ht : (pc : Int) + off = (tgt : Int)) (ha : a < 2 ^ 30) (hb : t < 2 ^ 30) (kt : a = t → J S tgt L st) (kf : a ≠ t → J S (pc + 3) L st) : J S pc L (.int (tI t) :: .int (tI a) :: st) := by
  have e1 := tI_toInt hb
  have e2 := tI_toInt ha
  refine r_icmp_eq X d ht (fun h => kt ?_) (fun h => kf (fun z => h (by rw [z])))
  have := congrArg Int32.toInt h
  rw [e1, e2] at this; omega
theorem r_if_ltT (X : Cx E G own cc nL k J) {t : Nat} {off : Int} {tgt : Nat} (d : decode cc pc = .ok (.ifCond .lt off, 3)) (ht : (pc : Int) + off = (tgt : Int)) (hb : t < 2 ^ 30) (kt : t = 0 → J S tgt L st) (kf : ∀ u, t = u + 1 → J S (pc + 3) L st) : J S pc L (.int (tI t) :: st) := by
  have e1 := tI_toInt hb
  refine r_if_lt X d ht (fun h => kt ?_) (fun h => kf (t - 1) ?_)
  · rw [Int32.lt_iff_toInt_lt, e1, Int32.toInt_zero] at h; omega
  · rw [Int32.lt_iff_toInt_lt, e1, Int32.toInt_zero] at h; omega
end R2
theorem ofWF {l : Launch} {y : MethodName} {ws ws' : List Cond} {rm : Room} {Pc : Array Value → State → Prop} {Qc : Array Value → State → Outcome → State → Prop} {mc ms : Nat} {free : Addr → Prop} {cc : ByteArray} {maxL : Nat} {ret : Option FieldType}
    (hy : plainFor y = true) (hw : ws = Cond.code y cc maxL ret :: ws')
    (body : ∀ p e s m args below meth c s₁, BodyLoose p l y (headSpec ws rm) cc maxL ret e s m args below meth c s₁ → c.maxLocals = maxL → Pc args s →
      W p l e (headSpec ws rm).room s m args below meth c s.heap [] 0 0 (MQ below Qc args s mc ms free) (entryFrame m args maxL)) : Met l y ws rm Pc Qc mc ms free := by
  refine MetFree.of_bodySF (code := cc) (maxLocals := maxL) (ret := ret) hy ?_ ?_
  · intro args s m h hn
    obtain ⟨meth, c, h1, h2, h3, h4, h5, h6, -, -⟩ := Cond.code_spec hn (atoms_spec (ws := ws) h _ (by rw [hw]; exact List.mem_cons_self))
    exact ⟨meth, c, h1, h2, h3, h4, h5, h6⟩
  · intro p e s m args below meth c s₁ B hml hP _
    have hh0 : s₁.heap = s.heap := by rw [B.state]; rfl
    obtain ⟨t, a1, o, b1, b2, b3⟩ := body p e s m args below meth c s₁ B hml hP s₁ hh0 (Stand.of_body B)
    exact ⟨t, o, a1, b1, b2, ⟨b3.1, b3.2⟩⟩
theorem mk_iF {E : Ev} {G : Gm} {y : MethodName} {cc : ByteArray} {nL k : Nat} {ty : FieldType} {av : List Value} {S : Sg} {post : Sg → Option Value → Prop} (hy : plainFor y = true) (hE : eOK E) (hav : ∀ v ∈ av, v.category = 1) (hlen : av.length ≤ nL)
    (body : ∀ J : Jt, Cx E G y.cls cc nL k J → Ri cc ty post J → J S 0 (av.map some ++ List.replicate (nL - av.length) none) []) : CT E G y cc nL (some ty) k av S post := by
  refine ofWF (cc := cc) (maxL := nL) (ret := some ty) hy rfl ?_
  intro p e s m args below meth c s₁ B hml hv
  obtain ⟨rfl, hP, hK, hN⟩ := hv
  have hx := B.exec
  have hb := B.bytes
  have hr := B.returns
  have hts := atoms_spec (ws := Cond.code y cc nL (some ty) :: eW E) B.pre
  have hown : s.vm.findClass y.cls = some m.cls := findClass_of_methodNamed B.named
  have hlocks := B.notSynchronized
  rw [lg_entry_eq]
  refine body (jw p e _ s m av.toArray below meth c E G (dG G) s.heap.size 0 0 nL _) ⟨p, e, _, s, m, av.toArray, below, meth, c, dG G, s.heap.size, 0, 0, _, ⟨hx, hb, hml, hown, fun w h => hts w (List.mem_cons_of_mem _ h)⟩, hK, hN, ⟨Nat.le_refl _, Nat.le_refl _, Nat.zero_le _, Nat.zero_le _⟩, hE, fun _ h => h, rfl⟩ ?_ s.heap [] _ hP rfl va_S.rf (lo_entry hav hlen)
  intro S1 pc L v d hn hp H locs ls hP1 hz1 hS1 hl1
  exact W.zret hx hb hr hn (fun t ht hW => ⟨⟨S1, _, rfl, hp, by rw [ht]; exact hP1⟩, by rw [ht]; exact hz1, hS1.F ht⟩) hS1.2.2 d
end
section
theorem d_Math_floorMod_0 : decode b_Math_floorMod 0 = .ok (.iload_n 0, 1) := by decide +kernel
theorem d_Math_floorMod_1 : decode b_Math_floorMod 1 = .ok (.iload_n 1, 1) := by decide +kernel
theorem d_Math_floorMod_2 : decode b_Math_floorMod 2 = .ok (.irem, 1) := by decide +kernel
theorem d_Math_floorMod_3 : decode b_Math_floorMod 3 = .ok (.istore_n 2, 1) := by decide +kernel
theorem d_Math_floorMod_4 : decode b_Math_floorMod 4 = .ok (.iload_n 0, 1) := by decide +kernel
theorem d_Math_floorMod_5 : decode b_Math_floorMod 5 = .ok (.iload_n 1, 1) := by decide +kernel
theorem d_Math_floorMod_6 : decode b_Math_floorMod 6 = .ok (.ixor, 1) := by decide +kernel
theorem d_Math_floorMod_7 : decode b_Math_floorMod 7 = .ok (.ifCond .ge 11, 3) := by decide +kernel
theorem d_Math_floorMod_10 : decode b_Math_floorMod 10 = .ok (.iload_n 2, 1) := by decide +kernel
theorem d_Math_floorMod_11 : decode b_Math_floorMod 11 = .ok (.ifCond .eq 7, 3) := by decide +kernel
theorem d_Math_floorMod_14 : decode b_Math_floorMod 14 = .ok (.iload_n 2, 1) := by decide +kernel
theorem d_Math_floorMod_15 : decode b_Math_floorMod 15 = .ok (.iload_n 1, 1) := by decide +kernel
theorem d_Math_floorMod_16 : decode b_Math_floorMod 16 = .ok (.iadd, 1) := by decide +kernel
theorem d_Math_floorMod_17 : decode b_Math_floorMod 17 = .ok (.ireturn, 1) := by decide +kernel
theorem d_Math_floorMod_18 : decode b_Math_floorMod 18 = .ok (.iload_n 2, 1) := by decide +kernel
theorem d_Math_floorMod_19 : decode b_Math_floorMod 19 = .ok (.ireturn, 1) := by decide +kernel
theorem d_Arr_fill_0 : decode b_Arr_fill 0 = .ok (.iconst 0, 1) := by decide +kernel
theorem d_Arr_fill_1 : decode b_Arr_fill 1 = .ok (.istore_n 2, 1) := by decide +kernel
theorem d_Arr_fill_2 : decode b_Arr_fill 2 = .ok (.aload_n 0, 1) := by decide +kernel
theorem d_Arr_fill_3 : decode b_Arr_fill 3 = .ok (.arraylength, 1) := by decide +kernel
theorem d_Arr_fill_4 : decode b_Arr_fill 4 = .ok (.istore_n 3, 1) := by decide +kernel
theorem d_Arr_fill_5 : decode b_Arr_fill 5 = .ok (.iload_n 2, 1) := by decide +kernel
theorem d_Arr_fill_6 : decode b_Arr_fill 6 = .ok (.iload_n 3, 1) := by decide +kernel
theorem d_Arr_fill_7 : decode b_Arr_fill 7 = .ok (.if_icmp .ge 13, 3) := by decide +kernel
theorem d_Arr_fill_10 : decode b_Arr_fill 10 = .ok (.aload_n 0, 1) := by decide +kernel
theorem d_Arr_fill_11 : decode b_Arr_fill 11 = .ok (.iload_n 2, 1) := by decide +kernel
theorem d_Arr_fill_12 : decode b_Arr_fill 12 = .ok (.iload_n 1, 1) := by decide +kernel
theorem d_Arr_fill_13 : decode b_Arr_fill 13 = .ok (.iastore, 1) := by decide +kernel
theorem d_Arr_fill_14 : decode b_Arr_fill 14 = .ok (.iinc 2 1, 3) := by decide +kernel
theorem d_Arr_fill_17 : decode b_Arr_fill 17 = .ok (.goto (-12), 3) := by decide +kernel
theorem d_Arr_fill_20 : decode b_Arr_fill 20 = .ok (.return_, 1) := by decide +kernel
theorem d_Res_of_0 : decode b_Res_of 0 = .ok (.iload_n 0, 1) := by decide +kernel
theorem d_Res_of_1 : decode b_Res_of 1 = .ok (.sipush 10007, 3) := by decide +kernel
theorem d_Res_of_4 : decode b_Res_of 4 = .ok (.invokestatic 9, 3) := by decide +kernel
theorem d_Res_of_7 : decode b_Res_of 7 = .ok (.ireturn, 1) := by decide +kernel
theorem d_Res_invert_0 : decode b_Res_invert 0 = .ok (.iload_n 0, 1) := by decide +kernel
theorem d_Res_invert_1 : decode b_Res_invert 1 = .ok (.sipush 10005, 3) := by decide +kernel
theorem d_Res_invert_4 : decode b_Res_invert 4 = .ok (.invokestatic 15, 3) := by decide +kernel
theorem d_Res_invert_7 : decode b_Res_invert 7 = .ok (.ireturn, 1) := by decide +kernel
theorem d_Res_raise_0 : decode b_Res_raise 0 = .ok (.iconst 1, 1) := by decide +kernel
theorem d_Res_raise_1 : decode b_Res_raise 1 = .ok (.istore_n 2, 1) := by decide +kernel
theorem d_Res_raise_2 : decode b_Res_raise 2 = .ok (.iload_n 0, 1) := by decide +kernel
theorem d_Res_raise_3 : decode b_Res_raise 3 = .ok (.istore_n 3, 1) := by decide +kernel
theorem d_Res_raise_4 : decode b_Res_raise 4 = .ok (.iload_n 1, 1) := by decide +kernel
theorem d_Res_raise_5 : decode b_Res_raise 5 = .ok (.istore 4, 2) := by decide +kernel
theorem d_Res_raise_7 : decode b_Res_raise 7 = .ok (.iload 4, 2) := by decide +kernel
theorem d_Res_raise_9 : decode b_Res_raise 9 = .ok (.ifCond .le 36, 3) := by decide +kernel
theorem d_Res_raise_12 : decode b_Res_raise 12 = .ok (.iload 4, 2) := by decide +kernel
theorem d_Res_raise_14 : decode b_Res_raise 14 = .ok (.iconst 1, 1) := by decide +kernel
theorem d_Res_raise_15 : decode b_Res_raise 15 = .ok (.iand, 1) := by decide +kernel
theorem d_Res_raise_16 : decode b_Res_raise 16 = .ok (.iconst 1, 1) := by decide +kernel
theorem d_Res_raise_17 : decode b_Res_raise 17 = .ok (.if_icmp .ne 11, 3) := by decide +kernel
theorem d_Res_raise_20 : decode b_Res_raise 20 = .ok (.iload_n 2, 1) := by decide +kernel
theorem d_Res_raise_21 : decode b_Res_raise 21 = .ok (.iload_n 3, 1) := by decide +kernel
theorem d_Res_raise_22 : decode b_Res_raise 22 = .ok (.imul, 1) := by decide +kernel
theorem d_Res_raise_23 : decode b_Res_raise 23 = .ok (.sipush 10007, 3) := by decide +kernel
theorem d_Res_raise_26 : decode b_Res_raise 26 = .ok (.irem, 1) := by decide +kernel
theorem d_Res_raise_27 : decode b_Res_raise 27 = .ok (.istore_n 2, 1) := by decide +kernel
theorem d_Res_raise_28 : decode b_Res_raise 28 = .ok (.iload_n 3, 1) := by decide +kernel
theorem d_Res_raise_29 : decode b_Res_raise 29 = .ok (.iload_n 3, 1) := by decide +kernel
theorem d_Res_raise_30 : decode b_Res_raise 30 = .ok (.imul, 1) := by decide +kernel
theorem d_Res_raise_31 : decode b_Res_raise 31 = .ok (.sipush 10007, 3) := by decide +kernel
theorem d_Res_raise_34 : decode b_Res_raise 34 = .ok (.irem, 1) := by decide +kernel
theorem d_Res_raise_35 : decode b_Res_raise 35 = .ok (.istore_n 3, 1) := by decide +kernel
theorem d_Res_raise_36 : decode b_Res_raise 36 = .ok (.iload 4, 2) := by decide +kernel
theorem d_Res_raise_38 : decode b_Res_raise 38 = .ok (.iconst 1, 1) := by decide +kernel
theorem d_Res_raise_39 : decode b_Res_raise 39 = .ok (.ishr, 1) := by decide +kernel
theorem d_Res_raise_40 : decode b_Res_raise 40 = .ok (.istore 4, 2) := by decide +kernel
theorem d_Res_raise_42 : decode b_Res_raise 42 = .ok (.goto (-35), 3) := by decide +kernel
theorem d_Res_raise_45 : decode b_Res_raise 45 = .ok (.iload_n 2, 1) := by decide +kernel
theorem d_Res_raise_46 : decode b_Res_raise 46 = .ok (.ireturn, 1) := by decide +kernel
theorem d_Poly_init_0 : decode b_Poly_init 0 = .ok (.aload_n 0, 1) := by decide +kernel
theorem d_Poly_init_1 : decode b_Poly_init 1 = .ok (.invokespecial 3, 3) := by decide +kernel
theorem d_Poly_init_4 : decode b_Poly_init 4 = .ok (.aload_n 0, 1) := by decide +kernel
theorem d_Poly_init_5 : decode b_Poly_init 5 = .ok (.iload_n 1, 1) := by decide +kernel
theorem d_Poly_init_6 : decode b_Poly_init 6 = .ok (.newarray .int, 2) := by decide +kernel
theorem d_Poly_init_8 : decode b_Poly_init 8 = .ok (.putfield 9, 3) := by decide +kernel
theorem d_Poly_init_11 : decode b_Poly_init 11 = .ok (.aload_n 0, 1) := by decide +kernel
theorem d_Poly_init_12 : decode b_Poly_init 12 = .ok (.iconst (-1), 1) := by decide +kernel
theorem d_Poly_init_13 : decode b_Poly_init 13 = .ok (.putfield 15, 3) := by decide +kernel
theorem d_Poly_init_16 : decode b_Poly_init 16 = .ok (.return_, 1) := by decide +kernel
theorem d_Poly_clear_0 : decode b_Poly_clear 0 = .ok (.aload_n 0, 1) := by decide +kernel
theorem d_Poly_clear_1 : decode b_Poly_clear 1 = .ok (.getfield 9, 3) := by decide +kernel
theorem d_Poly_clear_4 : decode b_Poly_clear 4 = .ok (.iconst 0, 1) := by decide +kernel
theorem d_Poly_clear_5 : decode b_Poly_clear 5 = .ok (.invokestatic 19, 3) := by decide +kernel
theorem d_Poly_clear_8 : decode b_Poly_clear 8 = .ok (.aload_n 0, 1) := by decide +kernel
theorem d_Poly_clear_9 : decode b_Poly_clear 9 = .ok (.iconst (-1), 1) := by decide +kernel
theorem d_Poly_clear_10 : decode b_Poly_clear 10 = .ok (.putfield 15, 3) := by decide +kernel
theorem d_Poly_clear_13 : decode b_Poly_clear 13 = .ok (.return_, 1) := by decide +kernel
theorem d_Poly_setLinear_0 : decode b_Poly_setLinear 0 = .ok (.aload_n 0, 1) := by decide +kernel
theorem d_Poly_setLinear_1 : decode b_Poly_setLinear 1 = .ok (.invokevirtual 25, 3) := by decide +kernel
theorem d_Poly_setLinear_4 : decode b_Poly_setLinear 4 = .ok (.aload_n 0, 1) := by decide +kernel
theorem d_Poly_setLinear_5 : decode b_Poly_setLinear 5 = .ok (.getfield 9, 3) := by decide +kernel
theorem d_Poly_setLinear_8 : decode b_Poly_setLinear 8 = .ok (.iconst 1, 1) := by decide +kernel
theorem d_Poly_setLinear_9 : decode b_Poly_setLinear 9 = .ok (.iload_n 1, 1) := by decide +kernel
theorem d_Poly_setLinear_10 : decode b_Poly_setLinear 10 = .ok (.iastore, 1) := by decide +kernel
theorem d_Poly_setLinear_11 : decode b_Poly_setLinear 11 = .ok (.aload_n 0, 1) := by decide +kernel
theorem d_Poly_setLinear_12 : decode b_Poly_setLinear 12 = .ok (.getfield 9, 3) := by decide +kernel
theorem d_Poly_setLinear_15 : decode b_Poly_setLinear 15 = .ok (.iconst 0, 1) := by decide +kernel
theorem d_Poly_setLinear_16 : decode b_Poly_setLinear 16 = .ok (.iload_n 2, 1) := by decide +kernel
theorem d_Poly_setLinear_17 : decode b_Poly_setLinear 17 = .ok (.iastore, 1) := by decide +kernel
theorem d_Poly_setLinear_18 : decode b_Poly_setLinear 18 = .ok (.aload_n 0, 1) := by decide +kernel
theorem d_Poly_setLinear_19 : decode b_Poly_setLinear 19 = .ok (.invokevirtual 28, 3) := by decide +kernel
theorem d_Poly_setLinear_22 : decode b_Poly_setLinear 22 = .ok (.return_, 1) := by decide +kernel
theorem d_Poly_trim_0 : decode b_Poly_trim 0 = .ok (.aload_n 0, 1) := by decide +kernel
theorem d_Poly_trim_1 : decode b_Poly_trim 1 = .ok (.aload_n 0, 1) := by decide +kernel
theorem d_Poly_trim_2 : decode b_Poly_trim 2 = .ok (.getfield 9, 3) := by decide +kernel
theorem d_Poly_trim_5 : decode b_Poly_trim 5 = .ok (.arraylength, 1) := by decide +kernel
theorem d_Poly_trim_6 : decode b_Poly_trim 6 = .ok (.iconst 1, 1) := by decide +kernel
theorem d_Poly_trim_7 : decode b_Poly_trim 7 = .ok (.isub, 1) := by decide +kernel
theorem d_Poly_trim_8 : decode b_Poly_trim 8 = .ok (.putfield 15, 3) := by decide +kernel
theorem d_Poly_trim_11 : decode b_Poly_trim 11 = .ok (.aload_n 0, 1) := by decide +kernel
theorem d_Poly_trim_12 : decode b_Poly_trim 12 = .ok (.getfield 15, 3) := by decide +kernel
theorem d_Poly_trim_15 : decode b_Poly_trim 15 = .ok (.ifCond .lt 28, 3) := by decide +kernel
theorem d_Poly_trim_18 : decode b_Poly_trim 18 = .ok (.aload_n 0, 1) := by decide +kernel
theorem d_Poly_trim_19 : decode b_Poly_trim 19 = .ok (.getfield 9, 3) := by decide +kernel
theorem d_Poly_trim_22 : decode b_Poly_trim 22 = .ok (.aload_n 0, 1) := by decide +kernel
theorem d_Poly_trim_23 : decode b_Poly_trim 23 = .ok (.getfield 15, 3) := by decide +kernel
theorem d_Poly_trim_26 : decode b_Poly_trim 26 = .ok (.iaload, 1) := by decide +kernel
theorem d_Poly_trim_27 : decode b_Poly_trim 27 = .ok (.ifCond .ne 16, 3) := by decide +kernel
theorem d_Poly_trim_30 : decode b_Poly_trim 30 = .ok (.aload_n 0, 1) := by decide +kernel
theorem d_Poly_trim_31 : decode b_Poly_trim 31 = .ok (.dup, 1) := by decide +kernel
theorem d_Poly_trim_32 : decode b_Poly_trim 32 = .ok (.getfield 15, 3) := by decide +kernel
theorem d_Poly_trim_35 : decode b_Poly_trim 35 = .ok (.iconst 1, 1) := by decide +kernel
theorem d_Poly_trim_36 : decode b_Poly_trim 36 = .ok (.isub, 1) := by decide +kernel
theorem d_Poly_trim_37 : decode b_Poly_trim 37 = .ok (.putfield 15, 3) := by decide +kernel
theorem d_Poly_trim_40 : decode b_Poly_trim 40 = .ok (.goto (-29), 3) := by decide +kernel
theorem d_Poly_trim_43 : decode b_Poly_trim 43 = .ok (.return_, 1) := by decide +kernel
theorem d_Poly_copyFrom_0 : decode b_Poly_copyFrom 0 = .ok (.iconst 0, 1) := by decide +kernel
theorem d_Poly_copyFrom_1 : decode b_Poly_copyFrom 1 = .ok (.istore_n 2, 1) := by decide +kernel
theorem d_Poly_copyFrom_2 : decode b_Poly_copyFrom 2 = .ok (.iload_n 2, 1) := by decide +kernel
theorem d_Poly_copyFrom_3 : decode b_Poly_copyFrom 3 = .ok (.aload_n 0, 1) := by decide +kernel
theorem d_Poly_copyFrom_4 : decode b_Poly_copyFrom 4 = .ok (.getfield 9, 3) := by decide +kernel
theorem d_Poly_copyFrom_7 : decode b_Poly_copyFrom 7 = .ok (.arraylength, 1) := by decide +kernel
theorem d_Poly_copyFrom_8 : decode b_Poly_copyFrom 8 = .ok (.if_icmp .ge 34, 3) := by decide +kernel
theorem d_Poly_copyFrom_11 : decode b_Poly_copyFrom 11 = .ok (.aload_n 0, 1) := by decide +kernel
theorem d_Poly_copyFrom_12 : decode b_Poly_copyFrom 12 = .ok (.getfield 9, 3) := by decide +kernel
theorem d_Poly_copyFrom_15 : decode b_Poly_copyFrom 15 = .ok (.iload_n 2, 1) := by decide +kernel
theorem d_Poly_copyFrom_16 : decode b_Poly_copyFrom 16 = .ok (.iload_n 2, 1) := by decide +kernel
theorem d_Poly_copyFrom_17 : decode b_Poly_copyFrom 17 = .ok (.aload_n 1, 1) := by decide +kernel
theorem d_Poly_copyFrom_18 : decode b_Poly_copyFrom 18 = .ok (.getfield 9, 3) := by decide +kernel
theorem d_Poly_copyFrom_21 : decode b_Poly_copyFrom 21 = .ok (.arraylength, 1) := by decide +kernel
theorem d_Poly_copyFrom_22 : decode b_Poly_copyFrom 22 = .ok (.if_icmp .ge 12, 3) := by decide +kernel
theorem d_Poly_copyFrom_25 : decode b_Poly_copyFrom 25 = .ok (.aload_n 1, 1) := by decide +kernel
theorem d_Poly_copyFrom_26 : decode b_Poly_copyFrom 26 = .ok (.getfield 9, 3) := by decide +kernel
theorem d_Poly_copyFrom_29 : decode b_Poly_copyFrom 29 = .ok (.iload_n 2, 1) := by decide +kernel
theorem d_Poly_copyFrom_30 : decode b_Poly_copyFrom 30 = .ok (.iaload, 1) := by decide +kernel
theorem d_Poly_copyFrom_31 : decode b_Poly_copyFrom 31 = .ok (.goto 4, 3) := by decide +kernel
theorem d_Poly_copyFrom_34 : decode b_Poly_copyFrom 34 = .ok (.iconst 0, 1) := by decide +kernel
theorem d_Poly_copyFrom_35 : decode b_Poly_copyFrom 35 = .ok (.iastore, 1) := by decide +kernel
theorem d_Poly_copyFrom_36 : decode b_Poly_copyFrom 36 = .ok (.iinc 2 1, 3) := by decide +kernel
theorem d_Poly_copyFrom_39 : decode b_Poly_copyFrom 39 = .ok (.goto (-37), 3) := by decide +kernel
theorem d_Poly_copyFrom_42 : decode b_Poly_copyFrom 42 = .ok (.aload_n 0, 1) := by decide +kernel
theorem d_Poly_copyFrom_43 : decode b_Poly_copyFrom 43 = .ok (.invokevirtual 28, 3) := by decide +kernel
theorem d_Poly_copyFrom_46 : decode b_Poly_copyFrom 46 = .ok (.return_, 1) := by decide +kernel
theorem d_Poly_multiplyBy_0 : decode b_Poly_multiplyBy 0 = .ok (.iconst 0, 1) := by decide +kernel
theorem d_Poly_multiplyBy_1 : decode b_Poly_multiplyBy 1 = .ok (.istore_n 3, 1) := by decide +kernel
theorem d_Poly_multiplyBy_2 : decode b_Poly_multiplyBy 2 = .ok (.iload_n 3, 1) := by decide +kernel
theorem d_Poly_multiplyBy_3 : decode b_Poly_multiplyBy 3 = .ok (.iload_n 2, 1) := by decide +kernel
theorem d_Poly_multiplyBy_4 : decode b_Poly_multiplyBy 4 = .ok (.if_icmp .ge 90, 3) := by decide +kernel
theorem d_Poly_multiplyBy_7 : decode b_Poly_multiplyBy 7 = .ok (.aload_n 0, 1) := by decide +kernel
theorem d_Poly_multiplyBy_8 : decode b_Poly_multiplyBy 8 = .ok (.getfield 15, 3) := by decide +kernel
theorem d_Poly_multiplyBy_11 : decode b_Poly_multiplyBy 11 = .ok (.iconst 1, 1) := by decide +kernel
theorem d_Poly_multiplyBy_12 : decode b_Poly_multiplyBy 12 = .ok (.iadd, 1) := by decide +kernel
theorem d_Poly_multiplyBy_13 : decode b_Poly_multiplyBy 13 = .ok (.aload_n 0, 1) := by decide +kernel
theorem d_Poly_multiplyBy_14 : decode b_Poly_multiplyBy 14 = .ok (.getfield 9, 3) := by decide +kernel
theorem d_Poly_multiplyBy_17 : decode b_Poly_multiplyBy 17 = .ok (.arraylength, 1) := by decide +kernel
theorem d_Poly_multiplyBy_18 : decode b_Poly_multiplyBy 18 = .ok (.iconst 1, 1) := by decide +kernel
theorem d_Poly_multiplyBy_19 : decode b_Poly_multiplyBy 19 = .ok (.isub, 1) := by decide +kernel
theorem d_Poly_multiplyBy_20 : decode b_Poly_multiplyBy 20 = .ok (.invokestatic 31, 3) := by decide +kernel
theorem d_Poly_multiplyBy_23 : decode b_Poly_multiplyBy 23 = .ok (.istore 4, 2) := by decide +kernel
theorem d_Poly_multiplyBy_25 : decode b_Poly_multiplyBy 25 = .ok (.iload 4, 2) := by decide +kernel
theorem d_Poly_multiplyBy_27 : decode b_Poly_multiplyBy 27 = .ok (.ifCond .le 39, 3) := by decide +kernel
theorem d_Poly_multiplyBy_30 : decode b_Poly_multiplyBy 30 = .ok (.aload_n 0, 1) := by decide +kernel
theorem d_Poly_multiplyBy_31 : decode b_Poly_multiplyBy 31 = .ok (.getfield 9, 3) := by decide +kernel
theorem d_Poly_multiplyBy_34 : decode b_Poly_multiplyBy 34 = .ok (.iload 4, 2) := by decide +kernel
theorem d_Poly_multiplyBy_36 : decode b_Poly_multiplyBy 36 = .ok (.aload_n 0, 1) := by decide +kernel
theorem d_Poly_multiplyBy_37 : decode b_Poly_multiplyBy 37 = .ok (.getfield 9, 3) := by decide +kernel
theorem d_Poly_multiplyBy_40 : decode b_Poly_multiplyBy 40 = .ok (.iload 4, 2) := by decide +kernel
theorem d_Poly_multiplyBy_42 : decode b_Poly_multiplyBy 42 = .ok (.iaload, 1) := by decide +kernel
theorem d_Poly_multiplyBy_43 : decode b_Poly_multiplyBy 43 = .ok (.iload_n 1, 1) := by decide +kernel
theorem d_Poly_multiplyBy_44 : decode b_Poly_multiplyBy 44 = .ok (.imul, 1) := by decide +kernel
theorem d_Poly_multiplyBy_45 : decode b_Poly_multiplyBy 45 = .ok (.aload_n 0, 1) := by decide +kernel
theorem d_Poly_multiplyBy_46 : decode b_Poly_multiplyBy 46 = .ok (.getfield 9, 3) := by decide +kernel
theorem d_Poly_multiplyBy_49 : decode b_Poly_multiplyBy 49 = .ok (.iload 4, 2) := by decide +kernel
theorem d_Poly_multiplyBy_51 : decode b_Poly_multiplyBy 51 = .ok (.iconst 1, 1) := by decide +kernel
theorem d_Poly_multiplyBy_52 : decode b_Poly_multiplyBy 52 = .ok (.isub, 1) := by decide +kernel
theorem d_Poly_multiplyBy_53 : decode b_Poly_multiplyBy 53 = .ok (.iaload, 1) := by decide +kernel
theorem d_Poly_multiplyBy_54 : decode b_Poly_multiplyBy 54 = .ok (.iadd, 1) := by decide +kernel
theorem d_Poly_multiplyBy_55 : decode b_Poly_multiplyBy 55 = .ok (.sipush 10007, 3) := by decide +kernel
theorem d_Poly_multiplyBy_58 : decode b_Poly_multiplyBy 58 = .ok (.irem, 1) := by decide +kernel
theorem d_Poly_multiplyBy_59 : decode b_Poly_multiplyBy 59 = .ok (.iastore, 1) := by decide +kernel
theorem d_Poly_multiplyBy_60 : decode b_Poly_multiplyBy 60 = .ok (.iinc 4 (-1), 3) := by decide +kernel
theorem d_Poly_multiplyBy_63 : decode b_Poly_multiplyBy 63 = .ok (.goto (-38), 3) := by decide +kernel
theorem d_Poly_multiplyBy_66 : decode b_Poly_multiplyBy 66 = .ok (.aload_n 0, 1) := by decide +kernel
theorem d_Poly_multiplyBy_67 : decode b_Poly_multiplyBy 67 = .ok (.getfield 9, 3) := by decide +kernel
theorem d_Poly_multiplyBy_70 : decode b_Poly_multiplyBy 70 = .ok (.iconst 0, 1) := by decide +kernel
theorem d_Poly_multiplyBy_71 : decode b_Poly_multiplyBy 71 = .ok (.aload_n 0, 1) := by decide +kernel
theorem d_Poly_multiplyBy_72 : decode b_Poly_multiplyBy 72 = .ok (.getfield 9, 3) := by decide +kernel
theorem d_Poly_multiplyBy_75 : decode b_Poly_multiplyBy 75 = .ok (.iconst 0, 1) := by decide +kernel
theorem d_Poly_multiplyBy_76 : decode b_Poly_multiplyBy 76 = .ok (.iaload, 1) := by decide +kernel
theorem d_Poly_multiplyBy_77 : decode b_Poly_multiplyBy 77 = .ok (.iload_n 1, 1) := by decide +kernel
theorem d_Poly_multiplyBy_78 : decode b_Poly_multiplyBy 78 = .ok (.imul, 1) := by decide +kernel
theorem d_Poly_multiplyBy_79 : decode b_Poly_multiplyBy 79 = .ok (.sipush 10007, 3) := by decide +kernel
theorem d_Poly_multiplyBy_82 : decode b_Poly_multiplyBy 82 = .ok (.irem, 1) := by decide +kernel
theorem d_Poly_multiplyBy_83 : decode b_Poly_multiplyBy 83 = .ok (.iastore, 1) := by decide +kernel
theorem d_Poly_multiplyBy_84 : decode b_Poly_multiplyBy 84 = .ok (.aload_n 0, 1) := by decide +kernel
theorem d_Poly_multiplyBy_85 : decode b_Poly_multiplyBy 85 = .ok (.invokevirtual 28, 3) := by decide +kernel
theorem d_Poly_multiplyBy_88 : decode b_Poly_multiplyBy 88 = .ok (.iinc 3 1, 3) := by decide +kernel
theorem d_Poly_multiplyBy_91 : decode b_Poly_multiplyBy 91 = .ok (.goto (-89), 3) := by decide +kernel
theorem d_Poly_multiplyBy_94 : decode b_Poly_multiplyBy 94 = .ok (.return_, 1) := by decide +kernel
theorem d_Poly_addScaled_0 : decode b_Poly_addScaled 0 = .ok (.aload_n 0, 1) := by decide +kernel
theorem d_Poly_addScaled_1 : decode b_Poly_addScaled 1 = .ok (.getfield 9, 3) := by decide +kernel
theorem d_Poly_addScaled_4 : decode b_Poly_addScaled 4 = .ok (.arraylength, 1) := by decide +kernel
theorem d_Poly_addScaled_5 : decode b_Poly_addScaled 5 = .ok (.aload_n 1, 1) := by decide +kernel
theorem d_Poly_addScaled_6 : decode b_Poly_addScaled 6 = .ok (.getfield 9, 3) := by decide +kernel
theorem d_Poly_addScaled_9 : decode b_Poly_addScaled 9 = .ok (.arraylength, 1) := by decide +kernel
theorem d_Poly_addScaled_10 : decode b_Poly_addScaled 10 = .ok (.invokestatic 31, 3) := by decide +kernel
theorem d_Poly_addScaled_13 : decode b_Poly_addScaled 13 = .ok (.istore_n 3, 1) := by decide +kernel
theorem d_Poly_addScaled_14 : decode b_Poly_addScaled 14 = .ok (.iconst 0, 1) := by decide +kernel
theorem d_Poly_addScaled_15 : decode b_Poly_addScaled 15 = .ok (.istore 4, 2) := by decide +kernel
theorem d_Poly_addScaled_17 : decode b_Poly_addScaled 17 = .ok (.iload 4, 2) := by decide +kernel
theorem d_Poly_addScaled_19 : decode b_Poly_addScaled 19 = .ok (.iload_n 3, 1) := by decide +kernel
theorem d_Poly_addScaled_20 : decode b_Poly_addScaled 20 = .ok (.if_icmp .ge 37, 3) := by decide +kernel
theorem d_Poly_addScaled_23 : decode b_Poly_addScaled 23 = .ok (.aload_n 0, 1) := by decide +kernel
theorem d_Poly_addScaled_24 : decode b_Poly_addScaled 24 = .ok (.getfield 9, 3) := by decide +kernel
theorem d_Poly_addScaled_27 : decode b_Poly_addScaled 27 = .ok (.iload 4, 2) := by decide +kernel
theorem d_Poly_addScaled_29 : decode b_Poly_addScaled 29 = .ok (.aload_n 0, 1) := by decide +kernel
theorem d_Poly_addScaled_30 : decode b_Poly_addScaled 30 = .ok (.getfield 9, 3) := by decide +kernel
theorem d_Poly_addScaled_33 : decode b_Poly_addScaled 33 = .ok (.iload 4, 2) := by decide +kernel
theorem d_Poly_addScaled_35 : decode b_Poly_addScaled 35 = .ok (.iaload, 1) := by decide +kernel
theorem d_Poly_addScaled_36 : decode b_Poly_addScaled 36 = .ok (.aload_n 1, 1) := by decide +kernel
theorem d_Poly_addScaled_37 : decode b_Poly_addScaled 37 = .ok (.getfield 9, 3) := by decide +kernel
theorem d_Poly_addScaled_40 : decode b_Poly_addScaled 40 = .ok (.iload 4, 2) := by decide +kernel
theorem d_Poly_addScaled_42 : decode b_Poly_addScaled 42 = .ok (.iaload, 1) := by decide +kernel
theorem d_Poly_addScaled_43 : decode b_Poly_addScaled 43 = .ok (.iload_n 2, 1) := by decide +kernel
theorem d_Poly_addScaled_44 : decode b_Poly_addScaled 44 = .ok (.imul, 1) := by decide +kernel
theorem d_Poly_addScaled_45 : decode b_Poly_addScaled 45 = .ok (.iadd, 1) := by decide +kernel
theorem d_Poly_addScaled_46 : decode b_Poly_addScaled 46 = .ok (.sipush 10007, 3) := by decide +kernel
theorem d_Poly_addScaled_49 : decode b_Poly_addScaled 49 = .ok (.irem, 1) := by decide +kernel
theorem d_Poly_addScaled_50 : decode b_Poly_addScaled 50 = .ok (.iastore, 1) := by decide +kernel
theorem d_Poly_addScaled_51 : decode b_Poly_addScaled 51 = .ok (.iinc 4 1, 3) := by decide +kernel
theorem d_Poly_addScaled_54 : decode b_Poly_addScaled 54 = .ok (.goto (-37), 3) := by decide +kernel
theorem d_Poly_addScaled_57 : decode b_Poly_addScaled 57 = .ok (.aload_n 0, 1) := by decide +kernel
theorem d_Poly_addScaled_58 : decode b_Poly_addScaled 58 = .ok (.invokevirtual 28, 3) := by decide +kernel
theorem d_Poly_addScaled_61 : decode b_Poly_addScaled 61 = .ok (.return_, 1) := by decide +kernel
theorem d_Poly_at_0 : decode b_Poly_at 0 = .ok (.iconst 0, 1) := by decide +kernel
theorem d_Poly_at_1 : decode b_Poly_at 1 = .ok (.istore_n 2, 1) := by decide +kernel
theorem d_Poly_at_2 : decode b_Poly_at 2 = .ok (.aload_n 0, 1) := by decide +kernel
theorem d_Poly_at_3 : decode b_Poly_at 3 = .ok (.getfield 15, 3) := by decide +kernel
theorem d_Poly_at_6 : decode b_Poly_at 6 = .ok (.istore_n 3, 1) := by decide +kernel
theorem d_Poly_at_7 : decode b_Poly_at 7 = .ok (.iload_n 3, 1) := by decide +kernel
theorem d_Poly_at_8 : decode b_Poly_at 8 = .ok (.ifCond .lt 24, 3) := by decide +kernel
theorem d_Poly_at_11 : decode b_Poly_at 11 = .ok (.iload_n 2, 1) := by decide +kernel
theorem d_Poly_at_12 : decode b_Poly_at 12 = .ok (.iload_n 1, 1) := by decide +kernel
theorem d_Poly_at_13 : decode b_Poly_at 13 = .ok (.imul, 1) := by decide +kernel
theorem d_Poly_at_14 : decode b_Poly_at 14 = .ok (.aload_n 0, 1) := by decide +kernel
theorem d_Poly_at_15 : decode b_Poly_at 15 = .ok (.getfield 9, 3) := by decide +kernel
theorem d_Poly_at_18 : decode b_Poly_at 18 = .ok (.iload_n 3, 1) := by decide +kernel
theorem d_Poly_at_19 : decode b_Poly_at 19 = .ok (.iaload, 1) := by decide +kernel
theorem d_Poly_at_20 : decode b_Poly_at 20 = .ok (.iadd, 1) := by decide +kernel
theorem d_Poly_at_21 : decode b_Poly_at 21 = .ok (.sipush 10007, 3) := by decide +kernel
theorem d_Poly_at_24 : decode b_Poly_at 24 = .ok (.irem, 1) := by decide +kernel
theorem d_Poly_at_25 : decode b_Poly_at 25 = .ok (.istore_n 2, 1) := by decide +kernel
theorem d_Poly_at_26 : decode b_Poly_at 26 = .ok (.iinc 3 (-1), 3) := by decide +kernel
theorem d_Poly_at_29 : decode b_Poly_at 29 = .ok (.goto (-22), 3) := by decide +kernel
theorem d_Poly_at_32 : decode b_Poly_at 32 = .ok (.iload_n 2, 1) := by decide +kernel
theorem d_Poly_at_33 : decode b_Poly_at 33 = .ok (.ireturn, 1) := by decide +kernel
theorem d_Poly_divideBy_0 : decode b_Poly_divideBy 0 = .ok (.iload_n 1, 1) := by decide +kernel
theorem d_Poly_divideBy_1 : decode b_Poly_divideBy 1 = .ok (.ineg, 1) := by decide +kernel
theorem d_Poly_divideBy_2 : decode b_Poly_divideBy 2 = .ok (.invokestatic 37, 3) := by decide +kernel
theorem d_Poly_divideBy_5 : decode b_Poly_divideBy 5 = .ok (.istore_n 2, 1) := by decide +kernel
theorem d_Poly_divideBy_6 : decode b_Poly_divideBy 6 = .ok (.iconst 0, 1) := by decide +kernel
theorem d_Poly_divideBy_7 : decode b_Poly_divideBy 7 = .ok (.istore_n 3, 1) := by decide +kernel
theorem d_Poly_divideBy_8 : decode b_Poly_divideBy 8 = .ok (.aload_n 0, 1) := by decide +kernel
theorem d_Poly_divideBy_9 : decode b_Poly_divideBy 9 = .ok (.getfield 15, 3) := by decide +kernel
theorem d_Poly_divideBy_12 : decode b_Poly_divideBy 12 = .ok (.istore 4, 2) := by decide +kernel
theorem d_Poly_divideBy_14 : decode b_Poly_divideBy 14 = .ok (.iload 4, 2) := by decide +kernel
theorem d_Poly_divideBy_16 : decode b_Poly_divideBy 16 = .ok (.ifCond .lt 37, 3) := by decide +kernel
theorem d_Poly_divideBy_19 : decode b_Poly_divideBy 19 = .ok (.iload_n 3, 1) := by decide +kernel
theorem d_Poly_divideBy_20 : decode b_Poly_divideBy 20 = .ok (.iload_n 2, 1) := by decide +kernel
theorem d_Poly_divideBy_21 : decode b_Poly_divideBy 21 = .ok (.imul, 1) := by decide +kernel
theorem d_Poly_divideBy_22 : decode b_Poly_divideBy 22 = .ok (.aload_n 0, 1) := by decide +kernel
theorem d_Poly_divideBy_23 : decode b_Poly_divideBy 23 = .ok (.getfield 9, 3) := by decide +kernel
theorem d_Poly_divideBy_26 : decode b_Poly_divideBy 26 = .ok (.iload 4, 2) := by decide +kernel
theorem d_Poly_divideBy_28 : decode b_Poly_divideBy 28 = .ok (.iaload, 1) := by decide +kernel
theorem d_Poly_divideBy_29 : decode b_Poly_divideBy 29 = .ok (.iadd, 1) := by decide +kernel
theorem d_Poly_divideBy_30 : decode b_Poly_divideBy 30 = .ok (.sipush 10007, 3) := by decide +kernel
theorem d_Poly_divideBy_33 : decode b_Poly_divideBy 33 = .ok (.irem, 1) := by decide +kernel
theorem d_Poly_divideBy_34 : decode b_Poly_divideBy 34 = .ok (.istore 5, 2) := by decide +kernel
theorem d_Poly_divideBy_36 : decode b_Poly_divideBy 36 = .ok (.aload_n 0, 1) := by decide +kernel
theorem d_Poly_divideBy_37 : decode b_Poly_divideBy 37 = .ok (.getfield 9, 3) := by decide +kernel
theorem d_Poly_divideBy_40 : decode b_Poly_divideBy 40 = .ok (.iload 4, 2) := by decide +kernel
theorem d_Poly_divideBy_42 : decode b_Poly_divideBy 42 = .ok (.iload_n 3, 1) := by decide +kernel
theorem d_Poly_divideBy_43 : decode b_Poly_divideBy 43 = .ok (.iastore, 1) := by decide +kernel
theorem d_Poly_divideBy_44 : decode b_Poly_divideBy 44 = .ok (.iload 5, 2) := by decide +kernel
theorem d_Poly_divideBy_46 : decode b_Poly_divideBy 46 = .ok (.istore_n 3, 1) := by decide +kernel
theorem d_Poly_divideBy_47 : decode b_Poly_divideBy 47 = .ok (.iinc 4 (-1), 3) := by decide +kernel
theorem d_Poly_divideBy_50 : decode b_Poly_divideBy 50 = .ok (.goto (-36), 3) := by decide +kernel
theorem d_Poly_divideBy_53 : decode b_Poly_divideBy 53 = .ok (.aload_n 0, 1) := by decide +kernel
theorem d_Poly_divideBy_54 : decode b_Poly_divideBy 54 = .ok (.invokevirtual 28, 3) := by decide +kernel
theorem d_Poly_divideBy_57 : decode b_Poly_divideBy 57 = .ok (.iload_n 3, 1) := by decide +kernel
theorem d_Poly_divideBy_58 : decode b_Poly_divideBy 58 = .ok (.ireturn, 1) := by decide +kernel
theorem d_Poly_becomeProduct_0 : decode b_Poly_becomeProduct 0 = .ok (.aload_n 0, 1) := by decide +kernel
theorem d_Poly_becomeProduct_1 : decode b_Poly_becomeProduct 1 = .ok (.invokevirtual 25, 3) := by decide +kernel
theorem d_Poly_becomeProduct_4 : decode b_Poly_becomeProduct 4 = .ok (.iconst 0, 1) := by decide +kernel
theorem d_Poly_becomeProduct_5 : decode b_Poly_becomeProduct 5 = .ok (.istore_n 3, 1) := by decide +kernel
theorem d_Poly_becomeProduct_6 : decode b_Poly_becomeProduct 6 = .ok (.iload_n 3, 1) := by decide +kernel
theorem d_Poly_becomeProduct_7 : decode b_Poly_becomeProduct 7 = .ok (.aload_n 1, 1) := by decide +kernel
theorem d_Poly_becomeProduct_8 : decode b_Poly_becomeProduct 8 = .ok (.getfield 15, 3) := by decide +kernel
theorem d_Poly_becomeProduct_11 : decode b_Poly_becomeProduct 11 = .ok (.if_icmp .gt 76, 3) := by decide +kernel
theorem d_Poly_becomeProduct_14 : decode b_Poly_becomeProduct 14 = .ok (.iconst 0, 1) := by decide +kernel
theorem d_Poly_becomeProduct_15 : decode b_Poly_becomeProduct 15 = .ok (.istore 4, 2) := by decide +kernel
theorem d_Poly_becomeProduct_17 : decode b_Poly_becomeProduct 17 = .ok (.iload 4, 2) := by decide +kernel
theorem d_Poly_becomeProduct_19 : decode b_Poly_becomeProduct 19 = .ok (.aload_n 2, 1) := by decide +kernel
theorem d_Poly_becomeProduct_20 : decode b_Poly_becomeProduct 20 = .ok (.getfield 15, 3) := by decide +kernel
theorem d_Poly_becomeProduct_23 : decode b_Poly_becomeProduct 23 = .ok (.if_icmp .gt 58, 3) := by decide +kernel
theorem d_Poly_becomeProduct_26 : decode b_Poly_becomeProduct 26 = .ok (.iload_n 3, 1) := by decide +kernel
theorem d_Poly_becomeProduct_27 : decode b_Poly_becomeProduct 27 = .ok (.iload 4, 2) := by decide +kernel
theorem d_Poly_becomeProduct_29 : decode b_Poly_becomeProduct 29 = .ok (.iadd, 1) := by decide +kernel
theorem d_Poly_becomeProduct_30 : decode b_Poly_becomeProduct 30 = .ok (.aload_n 0, 1) := by decide +kernel
theorem d_Poly_becomeProduct_31 : decode b_Poly_becomeProduct 31 = .ok (.getfield 9, 3) := by decide +kernel
theorem d_Poly_becomeProduct_34 : decode b_Poly_becomeProduct 34 = .ok (.arraylength, 1) := by decide +kernel
theorem d_Poly_becomeProduct_35 : decode b_Poly_becomeProduct 35 = .ok (.if_icmp .ge 46, 3) := by decide +kernel
theorem d_Poly_becomeProduct_38 : decode b_Poly_becomeProduct 38 = .ok (.aload_n 0, 1) := by decide +kernel
theorem d_Poly_becomeProduct_39 : decode b_Poly_becomeProduct 39 = .ok (.getfield 9, 3) := by decide +kernel
theorem d_Poly_becomeProduct_42 : decode b_Poly_becomeProduct 42 = .ok (.iload_n 3, 1) := by decide +kernel
theorem d_Poly_becomeProduct_43 : decode b_Poly_becomeProduct 43 = .ok (.iload 4, 2) := by decide +kernel
theorem d_Poly_becomeProduct_45 : decode b_Poly_becomeProduct 45 = .ok (.iadd, 1) := by decide +kernel
theorem d_Poly_becomeProduct_46 : decode b_Poly_becomeProduct 46 = .ok (.aload_n 0, 1) := by decide +kernel
theorem d_Poly_becomeProduct_47 : decode b_Poly_becomeProduct 47 = .ok (.getfield 9, 3) := by decide +kernel
theorem d_Poly_becomeProduct_50 : decode b_Poly_becomeProduct 50 = .ok (.iload_n 3, 1) := by decide +kernel
theorem d_Poly_becomeProduct_51 : decode b_Poly_becomeProduct 51 = .ok (.iload 4, 2) := by decide +kernel
theorem d_Poly_becomeProduct_53 : decode b_Poly_becomeProduct 53 = .ok (.iadd, 1) := by decide +kernel
theorem d_Poly_becomeProduct_54 : decode b_Poly_becomeProduct 54 = .ok (.iaload, 1) := by decide +kernel
theorem d_Poly_becomeProduct_55 : decode b_Poly_becomeProduct 55 = .ok (.aload_n 1, 1) := by decide +kernel
theorem d_Poly_becomeProduct_56 : decode b_Poly_becomeProduct 56 = .ok (.getfield 9, 3) := by decide +kernel
theorem d_Poly_becomeProduct_59 : decode b_Poly_becomeProduct 59 = .ok (.iload_n 3, 1) := by decide +kernel
theorem d_Poly_becomeProduct_60 : decode b_Poly_becomeProduct 60 = .ok (.iaload, 1) := by decide +kernel
theorem d_Poly_becomeProduct_61 : decode b_Poly_becomeProduct 61 = .ok (.aload_n 2, 1) := by decide +kernel
theorem d_Poly_becomeProduct_62 : decode b_Poly_becomeProduct 62 = .ok (.getfield 9, 3) := by decide +kernel
theorem d_Poly_becomeProduct_65 : decode b_Poly_becomeProduct 65 = .ok (.iload 4, 2) := by decide +kernel
theorem d_Poly_becomeProduct_67 : decode b_Poly_becomeProduct 67 = .ok (.iaload, 1) := by decide +kernel
theorem d_Poly_becomeProduct_68 : decode b_Poly_becomeProduct 68 = .ok (.imul, 1) := by decide +kernel
theorem d_Poly_becomeProduct_69 : decode b_Poly_becomeProduct 69 = .ok (.iadd, 1) := by decide +kernel
theorem d_Poly_becomeProduct_70 : decode b_Poly_becomeProduct 70 = .ok (.sipush 10007, 3) := by decide +kernel
theorem d_Poly_becomeProduct_73 : decode b_Poly_becomeProduct 73 = .ok (.irem, 1) := by decide +kernel
theorem d_Poly_becomeProduct_74 : decode b_Poly_becomeProduct 74 = .ok (.iastore, 1) := by decide +kernel
theorem d_Poly_becomeProduct_75 : decode b_Poly_becomeProduct 75 = .ok (.iinc 4 1, 3) := by decide +kernel
theorem d_Poly_becomeProduct_78 : decode b_Poly_becomeProduct 78 = .ok (.goto (-61), 3) := by decide +kernel
theorem d_Poly_becomeProduct_81 : decode b_Poly_becomeProduct 81 = .ok (.iinc 3 1, 3) := by decide +kernel
theorem d_Poly_becomeProduct_84 : decode b_Poly_becomeProduct 84 = .ok (.goto (-78), 3) := by decide +kernel
theorem d_Poly_becomeProduct_87 : decode b_Poly_becomeProduct 87 = .ok (.aload_n 0, 1) := by decide +kernel
theorem d_Poly_becomeProduct_88 : decode b_Poly_becomeProduct 88 = .ok (.invokevirtual 28, 3) := by decide +kernel
theorem d_Poly_becomeProduct_91 : decode b_Poly_becomeProduct 91 = .ok (.return_, 1) := by decide +kernel
theorem d_Poly_moveOn_0 : decode b_Poly_moveOn 0 = .ok (.iconst 0, 1) := by decide +kernel
theorem d_Poly_moveOn_1 : decode b_Poly_moveOn 1 = .ok (.istore_n 1, 1) := by decide +kernel
theorem d_Poly_moveOn_2 : decode b_Poly_moveOn 2 = .ok (.iload_n 1, 1) := by decide +kernel
theorem d_Poly_moveOn_3 : decode b_Poly_moveOn 3 = .ok (.aload_n 0, 1) := by decide +kernel
theorem d_Poly_moveOn_4 : decode b_Poly_moveOn 4 = .ok (.getfield 15, 3) := by decide +kernel
theorem d_Poly_moveOn_7 : decode b_Poly_moveOn 7 = .ok (.if_icmp .ge 52, 3) := by decide +kernel
theorem d_Poly_moveOn_10 : decode b_Poly_moveOn 10 = .ok (.aload_n 0, 1) := by decide +kernel
theorem d_Poly_moveOn_11 : decode b_Poly_moveOn 11 = .ok (.getfield 15, 3) := by decide +kernel
theorem d_Poly_moveOn_14 : decode b_Poly_moveOn 14 = .ok (.iconst 1, 1) := by decide +kernel
theorem d_Poly_moveOn_15 : decode b_Poly_moveOn 15 = .ok (.isub, 1) := by decide +kernel
theorem d_Poly_moveOn_16 : decode b_Poly_moveOn 16 = .ok (.istore_n 2, 1) := by decide +kernel
theorem d_Poly_moveOn_17 : decode b_Poly_moveOn 17 = .ok (.iload_n 2, 1) := by decide +kernel
theorem d_Poly_moveOn_18 : decode b_Poly_moveOn 18 = .ok (.iload_n 1, 1) := by decide +kernel
theorem d_Poly_moveOn_19 : decode b_Poly_moveOn 19 = .ok (.if_icmp .lt 34, 3) := by decide +kernel
theorem d_Poly_moveOn_22 : decode b_Poly_moveOn 22 = .ok (.aload_n 0, 1) := by decide +kernel
theorem d_Poly_moveOn_23 : decode b_Poly_moveOn 23 = .ok (.getfield 9, 3) := by decide +kernel
theorem d_Poly_moveOn_26 : decode b_Poly_moveOn 26 = .ok (.iload_n 2, 1) := by decide +kernel
theorem d_Poly_moveOn_27 : decode b_Poly_moveOn 27 = .ok (.aload_n 0, 1) := by decide +kernel
theorem d_Poly_moveOn_28 : decode b_Poly_moveOn 28 = .ok (.getfield 9, 3) := by decide +kernel
theorem d_Poly_moveOn_31 : decode b_Poly_moveOn 31 = .ok (.iload_n 2, 1) := by decide +kernel
theorem d_Poly_moveOn_32 : decode b_Poly_moveOn 32 = .ok (.iaload, 1) := by decide +kernel
theorem d_Poly_moveOn_33 : decode b_Poly_moveOn 33 = .ok (.aload_n 0, 1) := by decide +kernel
theorem d_Poly_moveOn_34 : decode b_Poly_moveOn 34 = .ok (.getfield 9, 3) := by decide +kernel
theorem d_Poly_moveOn_37 : decode b_Poly_moveOn 37 = .ok (.iload_n 2, 1) := by decide +kernel
theorem d_Poly_moveOn_38 : decode b_Poly_moveOn 38 = .ok (.iconst 1, 1) := by decide +kernel
theorem d_Poly_moveOn_39 : decode b_Poly_moveOn 39 = .ok (.iadd, 1) := by decide +kernel
theorem d_Poly_moveOn_40 : decode b_Poly_moveOn 40 = .ok (.iaload, 1) := by decide +kernel
theorem d_Poly_moveOn_41 : decode b_Poly_moveOn 41 = .ok (.iadd, 1) := by decide +kernel
theorem d_Poly_moveOn_42 : decode b_Poly_moveOn 42 = .ok (.sipush 10007, 3) := by decide +kernel
theorem d_Poly_moveOn_45 : decode b_Poly_moveOn 45 = .ok (.irem, 1) := by decide +kernel
theorem d_Poly_moveOn_46 : decode b_Poly_moveOn 46 = .ok (.iastore, 1) := by decide +kernel
theorem d_Poly_moveOn_47 : decode b_Poly_moveOn 47 = .ok (.iinc 2 (-1), 3) := by decide +kernel
theorem d_Poly_moveOn_50 : decode b_Poly_moveOn 50 = .ok (.goto (-33), 3) := by decide +kernel
theorem d_Poly_moveOn_53 : decode b_Poly_moveOn 53 = .ok (.iinc 1 1, 3) := by decide +kernel
theorem d_Poly_moveOn_56 : decode b_Poly_moveOn 56 = .ok (.goto (-54), 3) := by decide +kernel
theorem d_Poly_moveOn_59 : decode b_Poly_moveOn 59 = .ok (.return_, 1) := by decide +kernel
theorem d_Poly_scale_0 : decode b_Poly_scale 0 = .ok (.iconst 0, 1) := by decide +kernel
theorem d_Poly_scale_1 : decode b_Poly_scale 1 = .ok (.istore_n 2, 1) := by decide +kernel
theorem d_Poly_scale_2 : decode b_Poly_scale 2 = .ok (.iload_n 2, 1) := by decide +kernel
theorem d_Poly_scale_3 : decode b_Poly_scale 3 = .ok (.aload_n 0, 1) := by decide +kernel
theorem d_Poly_scale_4 : decode b_Poly_scale 4 = .ok (.getfield 15, 3) := by decide +kernel
theorem d_Poly_scale_7 : decode b_Poly_scale 7 = .ok (.if_icmp .gt 27, 3) := by decide +kernel
theorem d_Poly_scale_10 : decode b_Poly_scale 10 = .ok (.aload_n 0, 1) := by decide +kernel
theorem d_Poly_scale_11 : decode b_Poly_scale 11 = .ok (.getfield 9, 3) := by decide +kernel
theorem d_Poly_scale_14 : decode b_Poly_scale 14 = .ok (.iload_n 2, 1) := by decide +kernel
theorem d_Poly_scale_15 : decode b_Poly_scale 15 = .ok (.aload_n 0, 1) := by decide +kernel
theorem d_Poly_scale_16 : decode b_Poly_scale 16 = .ok (.getfield 9, 3) := by decide +kernel
theorem d_Poly_scale_19 : decode b_Poly_scale 19 = .ok (.iload_n 2, 1) := by decide +kernel
theorem d_Poly_scale_20 : decode b_Poly_scale 20 = .ok (.iaload, 1) := by decide +kernel
theorem d_Poly_scale_21 : decode b_Poly_scale 21 = .ok (.iload_n 1, 1) := by decide +kernel
theorem d_Poly_scale_22 : decode b_Poly_scale 22 = .ok (.imul, 1) := by decide +kernel
theorem d_Poly_scale_23 : decode b_Poly_scale 23 = .ok (.sipush 10007, 3) := by decide +kernel
theorem d_Poly_scale_26 : decode b_Poly_scale 26 = .ok (.irem, 1) := by decide +kernel
theorem d_Poly_scale_27 : decode b_Poly_scale 27 = .ok (.iastore, 1) := by decide +kernel
theorem d_Poly_scale_28 : decode b_Poly_scale 28 = .ok (.iinc 2 1, 3) := by decide +kernel
theorem d_Poly_scale_31 : decode b_Poly_scale 31 = .ok (.goto (-29), 3) := by decide +kernel
theorem d_Poly_scale_34 : decode b_Poly_scale 34 = .ok (.aload_n 0, 1) := by decide +kernel
theorem d_Poly_scale_35 : decode b_Poly_scale 35 = .ok (.invokevirtual 28, 3) := by decide +kernel
theorem d_Poly_scale_38 : decode b_Poly_scale 38 = .ok (.return_, 1) := by decide +kernel
theorem d_Poly_matches_0 : decode b_Poly_matches 0 = .ok (.aload_n 0, 1) := by decide +kernel
theorem d_Poly_matches_1 : decode b_Poly_matches 1 = .ok (.getfield 15, 3) := by decide +kernel
theorem d_Poly_matches_4 : decode b_Poly_matches 4 = .ok (.aload_n 1, 1) := by decide +kernel
theorem d_Poly_matches_5 : decode b_Poly_matches 5 = .ok (.getfield 15, 3) := by decide +kernel
theorem d_Poly_matches_8 : decode b_Poly_matches 8 = .ok (.if_icmp .eq 5, 3) := by decide +kernel
theorem d_Poly_matches_11 : decode b_Poly_matches 11 = .ok (.iconst 0, 1) := by decide +kernel
theorem d_Poly_matches_12 : decode b_Poly_matches 12 = .ok (.ireturn, 1) := by decide +kernel
theorem d_Poly_matches_13 : decode b_Poly_matches 13 = .ok (.iconst 0, 1) := by decide +kernel
theorem d_Poly_matches_14 : decode b_Poly_matches 14 = .ok (.istore_n 2, 1) := by decide +kernel
theorem d_Poly_matches_15 : decode b_Poly_matches 15 = .ok (.iload_n 2, 1) := by decide +kernel
theorem d_Poly_matches_16 : decode b_Poly_matches 16 = .ok (.aload_n 0, 1) := by decide +kernel
theorem d_Poly_matches_17 : decode b_Poly_matches 17 = .ok (.getfield 15, 3) := by decide +kernel
theorem d_Poly_matches_20 : decode b_Poly_matches 20 = .ok (.if_icmp .gt 26, 3) := by decide +kernel
theorem d_Poly_matches_23 : decode b_Poly_matches 23 = .ok (.aload_n 0, 1) := by decide +kernel
theorem d_Poly_matches_24 : decode b_Poly_matches 24 = .ok (.getfield 9, 3) := by decide +kernel
theorem d_Poly_matches_27 : decode b_Poly_matches 27 = .ok (.iload_n 2, 1) := by decide +kernel
theorem d_Poly_matches_28 : decode b_Poly_matches 28 = .ok (.iaload, 1) := by decide +kernel
theorem d_Poly_matches_29 : decode b_Poly_matches 29 = .ok (.aload_n 1, 1) := by decide +kernel
theorem d_Poly_matches_30 : decode b_Poly_matches 30 = .ok (.getfield 9, 3) := by decide +kernel
theorem d_Poly_matches_33 : decode b_Poly_matches 33 = .ok (.iload_n 2, 1) := by decide +kernel
theorem d_Poly_matches_34 : decode b_Poly_matches 34 = .ok (.iaload, 1) := by decide +kernel
theorem d_Poly_matches_35 : decode b_Poly_matches 35 = .ok (.if_icmp .eq 5, 3) := by decide +kernel
theorem d_Poly_matches_38 : decode b_Poly_matches 38 = .ok (.iconst 0, 1) := by decide +kernel
theorem d_Poly_matches_39 : decode b_Poly_matches 39 = .ok (.ireturn, 1) := by decide +kernel
theorem d_Poly_matches_40 : decode b_Poly_matches 40 = .ok (.iinc 2 1, 3) := by decide +kernel
theorem d_Poly_matches_43 : decode b_Poly_matches 43 = .ok (.goto (-28), 3) := by decide +kernel
theorem d_Poly_matches_46 : decode b_Poly_matches 46 = .ok (.iconst 1, 1) := by decide +kernel
theorem d_Poly_matches_47 : decode b_Poly_matches 47 = .ok (.ireturn, 1) := by decide +kernel
end
section
section P1
variable {l : Launch} {D : va_G} {cI cT : ClassId} {G : Gm} {S : Sg}
set_option maxHeartbeats 4000000 in
set_option maxRecDepth 100000 in
theorem c_floorMod {x : Int32} : CT (mkE l D cI cT) G y_Math_floorMod b_Math_floorMod 3 (some .int) 0 [.int x, .int (nI 10007)] S (Pi (fun S' r => S' = S ∧ r = nI (em x))) := by
  refine mk_iF (by decide +kernel) (eok l D cI cT) (by simp [Value.category]) (Nat.le_of_ble_eq_true rfl) (fun J X hR => ?_)
  show J S 0 [some (.int x), some (.int (nI 10007)), none] []
  have hm := rem_cases x
  refine r_iload_n X d_Math_floorMod_0 (by rfl) ?_
  refine r_iload_n X d_Math_floorMod_1 (by rfl) ?_
  refine r_irem X d_Math_floorMod_2 (by decide) ?_
  refine r_istore_n X d_Math_floorMod_3 (by decide) ?_
  refine r_iload_n X d_Math_floorMod_4 (by rfl) ?_
  refine r_iload_n X d_Math_floorMod_5 (by rfl) ?_
  refine r_ixor X d_Math_floorMod_6 ?_
  refine r_if_ge X d_Math_floorMod_7 (tgt := 18) (by decide) (fun hc => ?_) (fun hc => ?_)
  · refine r_iload_n X d_Math_floorMod_18 (by rfl) ?_
    exact hR _ _ _ _ d_Math_floorMod_19 rfl ⟨_, rfl, rfl, hm.2 (Or.inl (Int32.not_lt.mpr hc))⟩
  · have hc := Int32.not_le.mp hc
    refine r_iload_n X d_Math_floorMod_10 (by rfl) ?_
    refine r_if_eq X d_Math_floorMod_11 (tgt := 18) (by decide) (fun hc2 => ?_) (fun hc2 => ?_)
    · refine r_iload_n X d_Math_floorMod_18 (by rfl) ?_
      exact hR _ _ _ _ d_Math_floorMod_19 rfl ⟨_, rfl, rfl, hm.2 (Or.inr hc2)⟩
    · refine r_iload_n X d_Math_floorMod_14 (by rfl) ?_
      refine r_iload_n X d_Math_floorMod_15 (by rfl) ?_
      refine r_iadd X d_Math_floorMod_16 ?_
      exact hR _ _ _ _ d_Math_floorMod_17 rfl ⟨_, rfl, rfl, hm.1 hc hc2⟩
set_option maxHeartbeats 4000000 in
set_option maxRecDepth 100000 in
theorem c_of {x : Int32} : CT (mkE l D cI cT) G y_Res_of b_Res_of 1 (some .int) 1 [.int x] S (Pi (fun S' r => S' = S ∧ r = nI (em x))) := by
  refine mk_i (by decide) (eok l D cI cT) (by simp [Value.category]) (Nat.le_of_ble_eq_true rfl) (fun J X hR => ?_)
  show J S 0 [some (.int x)] []
  refine r_iload_n X d_Res_of_0 (by rfl) ?_
  refine r_sipush X (x := (nI 10007)) d_Res_of_1 (by decide) ?_
  refine r_cSi X ls_Res_9 c_floorMod (by decide) rfl (Nat.le_of_ble_eq_true rfl) d_Res_of_4 rfl (fun S1 r h1 => ?_)
  obtain ⟨rfl, rfl⟩ := h1
  exact hR _ _ _ _ d_Res_of_7 rfl ⟨_, rfl, rfl, rfl⟩
set_option maxHeartbeats 4000000 in
set_option maxRecDepth 100000 in
theorem c_fill {a n v : Nat} (ha : G a = some (kArr n)) (hn : n < 100000) : CT (mkE l D cI cT) G y_Arr_fill b_Arr_fill 4 none 0 [.ref a, .int (nI v)] S (Pv (fun S' => S' = arS S a (fun i => if i < n then v else 0))) := by
  refine mk_v (by decide) (eok l D cI cT) (by simp [Value.category]) (Nat.le_of_ble_eq_true rfl) (fun J X hR => ?_)
  show J S 0 [some (.ref a), some (.int (nI v)), none, none] []
  have loop : ∀ m i S1, i + m = n → S1 = arS S a (fun j => if j < i then v else S.1 a j) → J S1 5 [some (.ref a), some (.int (nI v)), some (.int (nI i)), some (.int (nI n))] [] := by
    intro m
    induction m with
    | zero =>
      intro i S1 hi hS
      refine r_iload_n X d_Arr_fill_5 (by rfl) ?_
      refine r_iload_n X d_Arr_fill_6 (by rfl) ?_
      refine r_icmp_geN X d_Arr_fill_7 (tgt := 20) (by decide) (by omega) (by omega) (fun hc => ?_) (fun hc => ?_)
      · refine r_trunc X (f := fun j => if j < n then v else 0) ha (fun j hj => ?_) ?_
        · rw [hS, arS_1, if_pos hj, if_pos (by omega)]
        · exact hR _ _ _ d_Arr_fill_20 ⟨rfl, by rw [hS, arS_arS]⟩
      · omega
    | succ m ih =>
      intro i S1 hi hS
      refine r_iload_n X d_Arr_fill_5 (by rfl) ?_
      refine r_iload_n X d_Arr_fill_6 (by rfl) ?_
      refine r_icmp_geN X d_Arr_fill_7 (tgt := 20) (by decide) (by omega) (by omega) (fun hc => ?_) (fun hc => ?_)
      · omega
      · refine r_aload_n X d_Arr_fill_10 (by rfl) ?_
        refine r_iload_n X d_Arr_fill_11 (by rfl) ?_
        refine r_iload_n X d_Arr_fill_12 (by rfl) ?_
        refine r_iast X d_Arr_fill_13 (by assumption) (by omega) (by omega) ?_
        refine r_iincN X 1 d_Arr_fill_14 (by rfl) (by decide) (by decide) ?_
        refine r_goto X d_Arr_fill_17 (tgt := 5) (by decide) ?_
        refine ih (i + 1) _ (by omega) ?_
        rw [hS, arS_arS, arS_1, up_lt (fun _ => v)]
  refine r_iconst X (x := (nI 0)) d_Arr_fill_0 (by decide) ?_
  refine r_istore_n X d_Arr_fill_1 (by decide) ?_
  refine r_aload_n X d_Arr_fill_2 (by rfl) ?_
  refine r_alen X d_Arr_fill_3 (by assumption) ?_
  refine r_istore_n X d_Arr_fill_4 (by decide) ?_
  refine loop n 0 _ (by omega) ?_
  rw [if_lt0 (fun _ => v), arS_id]
set_option maxHeartbeats 4000000 in
set_option maxRecDepth 100000 in
theorem c_trim {q n : Nat} (hp : isP G q n) (hf : ∀ i, i < n → S.1 (q + 1) i < 10007) : CT (mkE l D cI cT) G y_Poly_trim b_Poly_trim 1 none 0 [.ref q] S (Pv (fun S' => S' = fdS S q (tI (tp (S.1 (q + 1)) n)))) := by
  obtain ⟨hq, ha, hn2, hn⟩ := hp
  refine mk_v (by decide) (eok l D cI cT) (by simp [Value.category]) (Nat.le_of_ble_eq_true rfl) (fun J X hR => ?_)
  show J S 0 [some (.ref q)] []
  have loop : ∀ t S1, t ≤ n → S1 = fdS S q (tI t) → tp (S.1 (q + 1)) t = tp (S.1 (q + 1)) n → J S1 11 [some (.ref q)] [] := by
    intro t
    induction t with
    | zero =>
      intro S1 ht hS ht2
      have e2 : S1.2 q = tI 0 := by rw [hS, fdS_2]
      refine r_aload_n X d_Poly_trim_11 (by rfl) ?_
      refine r_get X lf_Poly_15 d_Poly_trim_12 (by assumption) (by rfl) ?_
      refine r_if_lt X d_Poly_trim_15 (tgt := 43) (by decide) (fun hc => ?_) (fun hc => ?_)
      · refine hR _ _ _ d_Poly_trim_43 ⟨rfl, ?_⟩
        rw [hS, ← ht2]
        rfl
      · exact absurd (by rw [e2]; exact tI_0) hc
    | succ t ih =>
      intro S1 ht hS ht2
      have e2 : S1.2 q = nI t := by rw [hS, fdS_2, tI_s]
      have e1 : S1.1 = S.1 := by rw [hS]; rfl
      refine r_aload_n X d_Poly_trim_11 (by rfl) ?_
      refine r_get X lf_Poly_15 d_Poly_trim_12 (by assumption) (by rfl) ?_
      refine r_if_lt X d_Poly_trim_15 (tgt := 43) (by decide) (fun hc => ?_) (fun hc => ?_)
      · rw [e2] at hc
        exact absurd hc (nI_pos (by omega))
      · refine r_aload_n X d_Poly_trim_18 (by rfl) ?_
        refine r_get X lf_Poly_9 d_Poly_trim_19 (by assumption) (by rfl) ?_
        refine r_aload_n X d_Poly_trim_22 (by rfl) ?_
        refine r_get X lf_Poly_15 d_Poly_trim_23 (by assumption) (by rfl) ?_
        refine r_int e2 ?_
        refine r_iald X d_Poly_trim_26 (by assumption) (by omega) (by omega) ?_
        rw [e1]
        have hb := hf t (by omega)
        refine r_if_neN X d_Poly_trim_27 (tgt := 43) (by decide) (by omega) (fun hc => ?_) (fun hc => ?_)
        · refine hR _ _ _ d_Poly_trim_43 ⟨rfl, ?_⟩
          rw [hS, ← ht2]
          unfold tp
          rw [if_neg hc]
        · refine r_aload_n X d_Poly_trim_30 (by rfl) ?_
          refine r_dup X d_Poly_trim_31 (by rfl) ?_
          refine r_get X lf_Poly_15 d_Poly_trim_32 (by assumption) (by rfl) ?_
          refine r_iconst X (x := (nI 1)) d_Poly_trim_35 (by decide) ?_
          first | refine r_isubN X d_Poly_trim_36 (by omega) ?_ | refine r_isub X d_Poly_trim_36 ?_
          refine r_put X lp_Poly_15 d_Poly_trim_37 (by assumption) (by rfl) (Nat.le_of_ble_eq_true rfl) ?_
          refine r_goto X d_Poly_trim_40 (tgt := 11) (by decide) ?_
          refine ih _ (by omega) ?_ ?_
          · rw [e2, hS, fdS_fdS]
            rfl
          · rw [← ht2]
            conv => rhs; unfold tp
            rw [if_pos hc]
  refine r_aload_n X d_Poly_trim_0 (by rfl) ?_
  refine r_aload_n X d_Poly_trim_1 (by rfl) ?_
  refine r_get X lf_Poly_9 d_Poly_trim_2 (by assumption) (by rfl) ?_
  refine r_alen X d_Poly_trim_5 (by assumption) ?_
  refine r_iconst X (x := (nI 1)) d_Poly_trim_6 (by decide) ?_
  first | refine r_isubN X d_Poly_trim_7 (by omega) ?_ | refine r_isub X d_Poly_trim_7 ?_
  refine r_put X lp_Poly_15 d_Poly_trim_8 (by assumption) (by rfl) (Nat.le_of_ble_eq_true rfl) ?_
  refine loop n _ (Nat.le_refl _) ?_ rfl
  have e : tI n = nI (n - 1) := by rw [← tI_s, show n - 1 + 1 = n by omega]
  rw [e]
theorem cut_ok (n : Nat) {g : Nat → Nat} (h : ∀ i, g i < 10007) : okP n (cut n g) := by
  refine ⟨fun i => ?_, fun i hi => ?_⟩
  · unfold cut
    split
    · exact h i
    · omega
  · unfold cut
    rw [if_neg (by omega)]
theorem pIs_trim {q n : Nat} {S1 : Sg} {f : Nat → Nat} (h : S1.1 (q + 1) = f) : pIs (fdS S1 q (tI (tp (S1.1 (q + 1)) n))) q n f := ⟨h, by rw [fdS_2, h]⟩
set_option maxHeartbeats 4000000 in
set_option maxRecDepth 100000 in
theorem c_clear {q n : Nat} (hp : isP G q n) : CT (mkE l D cI cT) G y_Poly_clear b_Poly_clear 1 none 1 [.ref q] S (Pv (fun S' => pIs S' q n (fun _ => 0) ∧ Out S S' q 2)) := by
  obtain ⟨hq, ha, hn2, hn⟩ := hp
  refine mk_v (by decide) (eok l D cI cT) (by simp [Value.category]) (Nat.le_of_ble_eq_true rfl) (fun J X hR => ?_)
  show J S 0 [some (.ref q)] []
  refine r_aload_n X d_Poly_clear_0 (by rfl) ?_
  refine r_get X lf_Poly_9 d_Poly_clear_1 (by assumption) (by rfl) ?_
  refine r_iconst X (x := (nI 0)) d_Poly_clear_4 (by decide) ?_
  refine r_cSv X ls_Poly_19 (c_fill (v := 0) ha (by omega)) (by decide) rfl (Nat.le_of_ble_eq_true rfl) d_Poly_clear_5 rfl (fun S1 h1 => ?_)
  refine r_aload_n X d_Poly_clear_8 (by rfl) ?_
  refine r_iconst X (x := (-1)) d_Poly_clear_9 (by decide) ?_
  refine r_put X lp_Poly_15 d_Poly_clear_10 (by assumption) (by rfl) (Nat.le_of_ble_eq_true rfl) ?_
  refine hR _ _ _ d_Poly_clear_13 ⟨rfl, ?_⟩
  subst h1
  refine ⟨⟨?_, ?_⟩, ?_⟩
  · rw [fdS_1, arS_1]
    funext i
    split <;> rfl
  · rw [fdS_2, tp_zero, m1_tI]
  · exact (Out.ar (by omega) (by omega)).trans (Out.fd (by omega) (by omega))
set_option maxHeartbeats 4000000 in
set_option maxRecDepth 100000 in
theorem c_setLinear {q n a b : Nat} (hp : isP G q n) (ha7 : a < 10007) (hb7 : b < 10007) : CT (mkE l D cI cT) G y_Poly_setLinear b_Poly_setLinear 3 none 2 [.ref q, .int (nI a), .int (nI b)] S (Pv (fun S' => pIs S' q n (lin a b) ∧ Out S S' q 2)) := by
  have hp0 := hp
  obtain ⟨hq, ha, hn2, hn⟩ := hp
  refine mk_v (by decide) (eok l D cI cT) (by simp [Value.category]) (Nat.le_of_ble_eq_true rfl) (fun J X hR => ?_)
  show J S 0 [some (.ref q), some (.int (nI a)), some (.int (nI b))] []
  refine r_aload_n X d_Poly_setLinear_0 (by rfl) ?_
  refine r_cVv X lv_Poly_25 (c_clear hp0) (by assumption) (by decide) rfl (Nat.le_of_ble_eq_true rfl) d_Poly_setLinear_1 rfl (fun S1 h1 => ?_)
  obtain ⟨⟨h1, h2⟩, ho⟩ := h1
  refine r_aload_n X d_Poly_setLinear_4 (by rfl) ?_
  refine r_get X lf_Poly_9 d_Poly_setLinear_5 (by assumption) (by rfl) ?_
  refine r_iconst X (x := (nI 1)) d_Poly_setLinear_8 (by decide) ?_
  refine r_iload_n X d_Poly_setLinear_9 (by rfl) ?_
  refine r_iast X d_Poly_setLinear_10 (by assumption) (by omega) (by omega) ?_
  refine r_aload_n X d_Poly_setLinear_11 (by rfl) ?_
  refine r_get X lf_Poly_9 d_Poly_setLinear_12 (by assumption) (by rfl) ?_
  refine r_iconst X (x := (nI 0)) d_Poly_setLinear_15 (by decide) ?_
  refine r_iload_n X d_Poly_setLinear_16 (by rfl) ?_
  refine r_iast X d_Poly_setLinear_17 (by assumption) (by omega) (by omega) ?_
  refine r_aload_n X d_Poly_setLinear_18 (by rfl) ?_
  have ho2 : Out S1 (arS (arS S1 (q + 1) (va_up (S1.1 (q + 1)) 1 a)) (q + 1) (va_up ((arS S1 (q + 1) (va_up (S1.1 (q + 1)) 1 a)).1 (q + 1)) 0 b)) q 2 := (Out.ar (by omega) (by omega)).trans (Out.ar (by omega) (by omega))
  have e3 : (arS (arS S1 (q + 1) (va_up (S1.1 (q + 1)) 1 a)) (q + 1) (va_up ((arS S1 (q + 1) (va_up (S1.1 (q + 1)) 1 a)).1 (q + 1)) 0 b)).1 (q + 1) = lin a b := by
    rw [arS_1, arS_1, h1]
    funext i
    unfold va_up lin
    rfl
  revert ho2 e3
  generalize arS (arS S1 (q + 1) (va_up (S1.1 (q + 1)) 1 a)) (q + 1) (va_up ((arS S1 (q + 1) (va_up (S1.1 (q + 1)) 1 a)).1 (q + 1)) 0 b) = S2
  intro ho2 e3
  refine r_cVv X lv_Poly_28 (c_trim hp0 (fun i _ => by rw [e3]; exact (lin_ok ha7 hb7 hn2).1 i)) (by assumption) (by decide) rfl (Nat.le_of_ble_eq_true rfl) d_Poly_setLinear_19 rfl (fun S3 h3 => ?_)
  subst h3
  exact hR _ _ _ d_Poly_setLinear_22 ⟨rfl, pIs_trim e3, (ho.trans ho2).trans (Out.fd (by omega) (by omega))⟩
set_option maxHeartbeats 4000000 in
set_option maxRecDepth 100000 in
theorem c_copyFrom {q n q' n' : Nat} {g : Nat → Nat} (hp : isP G q n) (hp' : isP G q' n') (hne : q ≠ q') (hg : okP n' g) (hs : S.1 (q' + 1) = g) : CT (mkE l D cI cT) G y_Poly_copyFrom b_Poly_copyFrom 3 none 1 [.ref q, .ref q'] S (Pv (fun S' => pIs S' q n (cut n g) ∧ Out S S' q 2)) := by
  have hp0 := hp
  obtain ⟨hq, ha, hn2, hn⟩ := hp
  obtain ⟨hq', ha', hn2', hn'⟩ := hp'
  refine mk_v (by decide) (eok l D cI cT) (by simp [Value.category]) (Nat.le_of_ble_eq_true rfl) (fun J X hR => ?_)
  show J S 0 [some (.ref q), some (.ref q'), none] []
  have loop : ∀ m i S1, i + m = n → S1 = arS S (q + 1) (fun j => if j < i then g j else S.1 (q + 1) j) → J S1 2 [some (.ref q), some (.ref q'), some (.int (nI i))] [] := by
    intro m
    induction m with
    | zero =>
      intro i S1 hi hS
      refine r_iload_n X d_Poly_copyFrom_2 (by rfl) ?_
      refine r_aload_n X d_Poly_copyFrom_3 (by rfl) ?_
      refine r_get X lf_Poly_9 d_Poly_copyFrom_4 (by assumption) (by rfl) ?_
      refine r_alen X d_Poly_copyFrom_7 (by assumption) ?_
      refine r_icmp_geN X d_Poly_copyFrom_8 (tgt := 42) (by decide) (by omega) (by omega) (fun hc => ?_) (fun hc => ?_)
      · refine r_trunc X (f := cut n g) ha (fun j hj => ?_) ?_
        · rw [hS, arS_1, if_pos (by omega)]
          unfold cut
          rw [if_pos hj]
        · refine r_aload_n X d_Poly_copyFrom_42 (by rfl) ?_
          have e3 : (arS S1 (q + 1) (cut n g)).1 (q + 1) = cut n g := arS_1 _ _ _
          refine r_cVv X lv_Poly_28 (c_trim hp0 (fun i _ => by rw [e3]; exact (cut_ok n hg.1).1 i)) (by assumption) (by decide) rfl (Nat.le_of_ble_eq_true rfl) d_Poly_copyFrom_43 rfl (fun S3 h3 => ?_)
          subst h3
          refine hR _ _ _ d_Poly_copyFrom_46 ⟨rfl, pIs_trim e3, ?_⟩
          rw [hS]
          exact ((Out.ar (by omega) (by omega)).trans (Out.ar (by omega) (by omega))).trans (Out.fd (by omega) (by omega))
      · omega
    | succ m ih =>
      intro i S1 hi hS
      have h35 : ∀ v, v = g i → J S1 35 [some (.ref q), some (.ref q'), some (.int (nI i))] [.int (nI v), .int (nI i), .ref (q + 1)] := by
        intro v hv
        refine r_iast X d_Poly_copyFrom_35 (by assumption) (by omega) (by omega) ?_
        refine r_iincN X 1 d_Poly_copyFrom_36 (by rfl) (by decide) (by decide) ?_
        refine r_goto X d_Poly_copyFrom_39 (tgt := 2) (by decide) ?_
        refine ih (i + 1) _ (by omega) ?_
        rw [hS, arS_arS, arS_1, hv, up_lt g]
      refine r_iload_n X d_Poly_copyFrom_2 (by rfl) ?_
      refine r_aload_n X d_Poly_copyFrom_3 (by rfl) ?_
      refine r_get X lf_Poly_9 d_Poly_copyFrom_4 (by assumption) (by rfl) ?_
      refine r_alen X d_Poly_copyFrom_7 (by assumption) ?_
      refine r_icmp_geN X d_Poly_copyFrom_8 (tgt := 42) (by decide) (by omega) (by omega) (fun hc => ?_) (fun hc => ?_)
      · omega
      · refine r_aload_n X d_Poly_copyFrom_11 (by rfl) ?_
        refine r_get X lf_Poly_9 d_Poly_copyFrom_12 (by assumption) (by rfl) ?_
        refine r_iload_n X d_Poly_copyFrom_15 (by rfl) ?_
        refine r_iload_n X d_Poly_copyFrom_16 (by rfl) ?_
        refine r_aload_n X d_Poly_copyFrom_17 (by rfl) ?_
        refine r_get X lf_Poly_9 d_Poly_copyFrom_18 (by assumption) (by rfl) ?_
        refine r_alen X d_Poly_copyFrom_21 (by assumption) ?_
        refine r_icmp_geN X d_Poly_copyFrom_22 (tgt := 34) (by decide) (by omega) (by omega) (fun hc => ?_) (fun hc => ?_)
        · refine r_iconst X (x := nI 0) d_Poly_copyFrom_34 (by decide) ?_
          exact h35 0 (hg.2 i hc).symm
        · refine r_aload_n X d_Poly_copyFrom_25 (by rfl) ?_
          refine r_get X lf_Poly_9 d_Poly_copyFrom_26 (by assumption) (by rfl) ?_
          refine r_iload_n X d_Poly_copyFrom_29 (by rfl) ?_
          refine r_iald X d_Poly_copyFrom_30 (by assumption) (by omega) (by omega) ?_
          refine r_goto X d_Poly_copyFrom_31 (tgt := 35) (by decide) ?_
          refine h35 _ ?_
          rw [hS, arS_1n (by omega), hs]
  refine r_iconst X (x := (nI 0)) d_Poly_copyFrom_0 (by decide) ?_
  refine r_istore_n X d_Poly_copyFrom_1 (by decide) ?_
  refine loop n 0 _ (by omega) ?_
  rw [if_lt0 g, arS_id]
set_option maxHeartbeats 4000000 in
set_option maxRecDepth 100000 in
theorem c_at {q n x : Nat} {f : Nat → Nat} (hp : isP G q n) (hf : okP n f) (hs : pIs S q n f) (hx : x < 10007) : CT (mkE l D cI cT) G y_Poly_at b_Poly_at 4 (some .int) 0 [.ref q, .int (nI x)] S (Pi (fun S' r => S' = S ∧ r = nI (hn f x n 0))) := by
  obtain ⟨hq, ha, hn2, hnn⟩ := hp
  obtain ⟨hs1, hs2⟩ := hs
  have htp := tp_le f n
  refine mk_i (by decide) (eok l D cI cT) (by simp [Value.category]) (Nat.le_of_ble_eq_true rfl) (fun J X hR => ?_)
  show J S 0 [some (.ref q), some (.int (nI x)), none, none] []
  have loop : ∀ t y, t ≤ n → y = hn f x (n - t) t → J S 7 [some (.ref q), some (.int (nI x)), some (.int (nI y)), some (.int (tI t))] [] := by
    intro t
    induction t with
    | zero =>
      intro y ht hy
      refine r_iload_n X d_Poly_at_7 (by rfl) ?_
      refine r_if_ltT X d_Poly_at_8 (tgt := 32) (by decide) (by omega) (fun hc => ?_) (fun u hc => ?_)
      · refine r_iload_n X d_Poly_at_32 (by rfl) ?_
        exact hR _ _ _ _ d_Poly_at_33 rfl ⟨_, rfl, rfl, by rw [hy]; rfl⟩
      · omega
    | succ t ih =>
      intro y ht hy
      refine r_iload_n X d_Poly_at_7 (by rfl) ?_
      refine r_if_ltT X d_Poly_at_8 (tgt := 32) (by decide) (by omega) (fun hc => ?_) (fun u hc => ?_)
      · omega
      · rw [tI_s]
        have hy7 : y < 10007 := by rw [hy]; exact hn_lt _ _ _ _
        have hm := mul_bd hy7 hx
        have hft := hf.1 t
        refine r_iload_n X d_Poly_at_11 (by rfl) ?_
        refine r_iload_n X d_Poly_at_12 (by rfl) ?_
        first | refine r_imulN X d_Poly_at_13 ?_ | refine r_imul X d_Poly_at_13 ?_
        refine r_aload_n X d_Poly_at_14 (by rfl) ?_
        refine r_get X lf_Poly_9 d_Poly_at_15 (by assumption) (by rfl) ?_
        refine r_iload_n X d_Poly_at_18 (by rfl) ?_
        refine r_iald X d_Poly_at_19 (by assumption) (by omega) (by omega) ?_
        rw [hs1]
        first | refine r_iaddN X d_Poly_at_20 ?_ | refine r_iadd X d_Poly_at_20 ?_
        refine r_sipush X (x := (nI 10007)) d_Poly_at_21 (by decide) ?_
        refine r_iremN X d_Poly_at_24 (by decide) (by decide) (by omega) ?_
        refine r_istore_n X d_Poly_at_25 (by decide) ?_
        refine r_iincD X d_Poly_at_26 (by rfl) (by decide) ?_
        refine r_goto X d_Poly_at_29 (tgt := 7) (by decide) ?_
        refine ih _ (by omega) ?_
        rw [show n - t = (n - (t + 1)) + 1 by omega]
        show _ = (hn f x (n - (t + 1)) (t + 1) * x + f t) % 10007
        rw [← hy]
  refine r_iconst X (x := (nI 0)) d_Poly_at_0 (by decide) ?_
  refine r_istore_n X d_Poly_at_1 (by decide) ?_
  refine r_aload_n X d_Poly_at_2 (by rfl) ?_
  refine r_get X lf_Poly_15 d_Poly_at_3 (by assumption) (by rfl) ?_
  refine r_int hs2 ?_
  refine r_istore_n X d_Poly_at_6 (by decide) ?_
  refine loop (tp f n) 0 htp ?_
  rw [hn_0 (fun j hj => hf.tz hj)]
end P1
end
section
section P2
variable {l : Launch} {D : va_G} {cI cT : ClassId} {G : Gm} {S : Sg}
theorem and1 {m : Nat} (h : m < 2 ^ 31) : nI m &&& nI 1 = nI (m % 2) := by
  have := pk_andN (n := m) (by omega) (m := nI 1) 1 (by decide)
  simpa using this
theorem shr1 {m : Nat} (h : m < 2 ^ 31) : nI m >>> (nI 1 &&& 31) = nI (m / 2) := by
  have := pk_shrN (n := m) h (nI 1 &&& 31) 1 (by decide)
  simpa using this
set_option maxHeartbeats 4000000 in
set_option maxRecDepth 100000 in
theorem c_raise {b n : Nat} (hb : b < 10007) (hn : n < 2 ^ 31) : CT (mkE l D cI cT) G y_Res_raise b_Res_raise 5 (some .int) 0 [.int (nI b), .int (nI n)] S (Pi (fun S' r => S' = S ∧ r = nI (pw b n))) := by
  refine mk_i (by decide) (eok l D cI cT) (by simp [Value.category]) (Nat.le_of_ble_eq_true rfl) (fun J X hR => ?_)
  show J S 0 [some (.int (nI b)), some (.int (nI n)), none, none, none] []
  have loop : ∀ fuel y f m, m < 2 ^ 31 → m < 2 ^ fuel → y < 10007 → f < 10007 → pwr fuel y f m = pw b n → J S 7 [some (.int (nI b)), some (.int (nI n)), some (.int (nI y)), some (.int (nI f)), some (.int (nI m))] [] := by
    intro fuel
    induction fuel with
    | zero =>
      intro y f m hm31 hm hy hf hr
      refine r_iload X d_Res_raise_7 (by rfl) ?_
      refine r_if_leN X d_Res_raise_9 (tgt := 45) (by decide) (by omega) (fun hc => ?_) (fun hc => ?_)
      · refine r_iload_n X d_Res_raise_45 (by rfl) ?_
        exact hR _ _ _ _ d_Res_raise_46 rfl ⟨_, rfl, rfl, by rw [← hr]; rfl⟩
      · omega
    | succ fuel ih =>
      intro y f m hm31 hm hy hf hr
      unfold pwr at hr
      refine r_iload X d_Res_raise_7 (by rfl) ?_
      refine r_if_leN X d_Res_raise_9 (tgt := 45) (by decide) (by omega) (fun hc => ?_) (fun hc => ?_)
      · rw [if_pos hc] at hr
        refine r_iload_n X d_Res_raise_45 (by rfl) ?_
        exact hR _ _ _ _ d_Res_raise_46 rfl ⟨_, rfl, rfl, by rw [hr]⟩
      · rw [if_neg (by omega)] at hr
        have hff := mul_bd hf hf
        have h28 : ∀ y', y' < 10007 → (y' = if m % 2 = 1 then y * f % 10007 else y) → J S 28 [some (.int (nI b)), some (.int (nI n)), some (.int (nI y')), some (.int (nI f)), some (.int (nI m))] [] := by
          intro y' hy' he
          refine r_iload_n X d_Res_raise_28 (by rfl) ?_
          refine r_iload_n X d_Res_raise_29 (by rfl) ?_
          first | refine r_imulN X d_Res_raise_30 ?_ | refine r_imul X d_Res_raise_30 ?_
          refine r_sipush X (x := (nI 10007)) d_Res_raise_31 (by decide) ?_
          refine r_iremN X d_Res_raise_34 (by decide) (by decide) (by omega) ?_
          refine r_istore_n X d_Res_raise_35 (by decide) ?_
          refine r_iload X d_Res_raise_36 (by rfl) ?_
          refine r_iconst X (x := (nI 1)) d_Res_raise_38 (by decide) ?_
          refine r_ishr X d_Res_raise_39 ?_
          refine r_int (shr1 hm31) ?_
          refine r_istore X d_Res_raise_40 (by decide) ?_
          refine r_goto X d_Res_raise_42 (tgt := 7) (by decide) ?_
          refine ih y' (f * f % 10007) (m / 2) (by omega) (by omega) hy' (Nat.mod_lt _ (by decide)) ?_
          rw [he]
          exact hr
        refine r_iload X d_Res_raise_12 (by rfl) ?_
        refine r_iconst X (x := (nI 1)) d_Res_raise_14 (by decide) ?_
        refine r_iand X d_Res_raise_15 ?_
        refine r_int (and1 hm31) ?_
        refine r_iconst X (x := (nI 1)) d_Res_raise_16 (by decide) ?_
        refine r_icmp_neN X d_Res_raise_17 (tgt := 28) (by decide) (by omega) (by omega) (fun hc => ?_) (fun hc => ?_)
        · exact h28 y hy (by rw [if_neg hc])
        · have hyf := mul_bd hy hf
          refine r_iload_n X d_Res_raise_20 (by rfl) ?_
          refine r_iload_n X d_Res_raise_21 (by rfl) ?_
          first | refine r_imulN X d_Res_raise_22 ?_ | refine r_imul X d_Res_raise_22 ?_
          refine r_sipush X (x := (nI 10007)) d_Res_raise_23 (by decide) ?_
          refine r_iremN X d_Res_raise_26 (by decide) (by decide) (by omega) ?_
          refine r_istore_n X d_Res_raise_27 (by decide) ?_
          exact h28 _ (Nat.mod_lt _ (by decide)) (by rw [if_pos hc])
  refine r_iconst X (x := (nI 1)) d_Res_raise_0 (by decide) ?_
  refine r_istore_n X d_Res_raise_1 (by decide) ?_
  refine r_iload_n X d_Res_raise_2 (by rfl) ?_
  refine r_istore_n X d_Res_raise_3 (by decide) ?_
  refine r_iload_n X d_Res_raise_4 (by rfl) ?_
  refine r_istore X d_Res_raise_5 (by decide) ?_
  exact loop 32 1 b n hn (by omega) (by decide) hb rfl
set_option maxHeartbeats 4000000 in
set_option maxRecDepth 100000 in
theorem c_invert {x : Nat} (hx : x < 10007) : CT (mkE l D cI cT) G y_Res_invert b_Res_invert 1 (some .int) 1 [.int (nI x)] S (Pi (fun S' r => S' = S ∧ r = nI (iv x))) := by
  refine mk_i (by decide) (eok l D cI cT) (by simp [Value.category]) (Nat.le_of_ble_eq_true rfl) (fun J X hR => ?_)
  show J S 0 [some (.int (nI x))] []
  refine r_iload_n X d_Res_invert_0 (by rfl) ?_
  refine r_sipush X (x := (nI 10005)) d_Res_invert_1 (by decide) ?_
  refine r_cSi X ls_Res_15 (c_raise (n := 10005) hx (by decide)) (by decide) rfl (Nat.le_of_ble_eq_true rfl) d_Res_invert_4 rfl (fun S1 r h1 => ?_)
  obtain ⟨rfl, rfl⟩ := h1
  exact hR _ _ _ _ d_Res_invert_7 rfl ⟨_, rfl, rfl, rfl⟩
theorem pw_lt {b n : Nat} : ∀ fuel y f m, y < 10007 → pwr fuel y f m < 10007 := by
  intro fuel
  induction fuel with
  | zero => intro y f m h; exact h
  | succ fuel ih =>
    intro y f m h
    unfold pwr
    split
    · exact h
    · refine ih _ _ _ ?_
      split
      · exact Nat.mod_lt _ (by decide)
      · exact h
theorem iv_lt (x : Nat) : iv x < 10007 := pw_lt (b := 0) (n := 0) 32 1 x 10005 (by decide)
theorem tp_two {f : Nat → Nat} {n n' : Nat} (h1 : ∀ i, n ≤ i → f i = 0) (h2 : ∀ i, n' ≤ i → f i = 0) : tp f n = tp f n' := by
  have a1 := tp_le f n
  rcases Nat.le_total n n' with h | h
  · rw [show n' = n + (n' - n) by omega, tp_more _ h1]
  · rw [show n = n' + (n - n') by omega, tp_more _ h2]
set_option maxHeartbeats 4000000 in
set_option maxRecDepth 100000 in
theorem c_pmatches {q n q' n' : Nat} {f g : Nat → Nat} (hp : isP G q n) (hp' : isP G q' n') (hf : okP n f) (hg : okP n' g) (hs : pIs S q n f) (hs' : pIs S q' n' g) : CT (mkE l D cI cT) G y_Poly_matches b_Poly_matches 3 (some .boolean) 0 [.ref q, .ref q'] S (Pi (fun S' r => S' = S ∧ ((r = nI 1 ∧ f = g) ∨ (r = nI 0 ∧ f ≠ g)))) := by
  obtain ⟨hq, ha, hn2, hnn⟩ := hp
  obtain ⟨hq', ha', hn2', hnn'⟩ := hp'
  obtain ⟨hs1, hs2⟩ := hs
  obtain ⟨hs1', hs2'⟩ := hs'
  have htp := tp_le f n
  have htp' := tp_le g n'
  refine mk_i (by decide) (eok l D cI cT) (by simp [Value.category]) (Nat.le_of_ble_eq_true rfl) (fun J X hR => ?_)
  show J S 0 [some (.ref q), some (.ref q'), none] []
  have loop : ∀ m i, i + m = tp f n → tp f n = tp g n' → (∀ j, j < i → f j = g j) → J S 15 [some (.ref q), some (.ref q'), some (.int (nI i))] [] := by
    intro m
    induction m with
    | zero =>
      intro i hi ht he
      refine r_iload_n X d_Poly_matches_15 (by rfl) ?_
      refine r_aload_n X d_Poly_matches_16 (by rfl) ?_
      refine r_get X lf_Poly_15 d_Poly_matches_17 (by assumption) (by rfl) ?_
      rw [hs2]
      refine r_icmp_gtT X d_Poly_matches_20 (tgt := 46) (by decide) (by omega) (by omega) (fun hc => ?_) (fun hc => ?_)
      · refine r_iconst X (x := (nI 1)) d_Poly_matches_46 (by decide) ?_
        refine hR _ _ _ _ d_Poly_matches_47 (by decide) ⟨_, rfl, rfl, Or.inl ⟨rfl, ?_⟩⟩
        funext j
        by_cases h : j < i
        · exact he j h
        · rw [hf.tz (by omega), hg.tz (by omega)]
      · omega
    | succ m ih =>
      intro i hi ht he
      refine r_iload_n X d_Poly_matches_15 (by rfl) ?_
      refine r_aload_n X d_Poly_matches_16 (by rfl) ?_
      refine r_get X lf_Poly_15 d_Poly_matches_17 (by assumption) (by rfl) ?_
      rw [hs2]
      refine r_icmp_gtT X d_Poly_matches_20 (tgt := 46) (by decide) (by omega) (by omega) (fun hc => ?_) (fun hc => ?_)
      · omega
      · have b1 := hf.1 i
        have b2 := hg.1 i
        refine r_aload_n X d_Poly_matches_23 (by rfl) ?_
        refine r_get X lf_Poly_9 d_Poly_matches_24 (by assumption) (by rfl) ?_
        refine r_iload_n X d_Poly_matches_27 (by rfl) ?_
        refine r_iald X d_Poly_matches_28 (by assumption) (by omega) (by omega) ?_
        refine r_aload_n X d_Poly_matches_29 (by rfl) ?_
        refine r_get X lf_Poly_9 d_Poly_matches_30 (by assumption) (by rfl) ?_
        refine r_iload_n X d_Poly_matches_33 (by rfl) ?_
        refine r_iald X d_Poly_matches_34 (by assumption) (by omega) (by omega) ?_
        rw [hs1, hs1']
        refine r_icmp_eqN X d_Poly_matches_35 (tgt := 40) (by decide) (by omega) (by omega) (fun hc => ?_) (fun hc => ?_)
        · refine r_iincN X 1 d_Poly_matches_40 (by rfl) (by decide) (by decide) ?_
          refine r_goto X d_Poly_matches_43 (tgt := 15) (by decide) ?_
          refine ih (i + 1) (by omega) ht (fun j hj => ?_)
          by_cases h : j = i
          · rw [h]; exact hc
          · exact he j (by omega)
        · refine r_iconst X (x := (nI 0)) d_Poly_matches_38 (by decide) ?_
          refine hR _ _ _ _ d_Poly_matches_39 (by decide) ⟨_, rfl, rfl, Or.inr ⟨rfl, fun z => hc (by rw [z])⟩⟩
  refine r_aload_n X d_Poly_matches_0 (by rfl) ?_
  refine r_get X lf_Poly_15 d_Poly_matches_1 (by assumption) (by rfl) ?_
  refine r_aload_n X d_Poly_matches_4 (by rfl) ?_
  refine r_get X lf_Poly_15 d_Poly_matches_5 (by assumption) (by rfl) ?_
  rw [hs2, hs2']
  refine r_icmp_eqT X d_Poly_matches_8 (tgt := 13) (by decide) (by omega) (by omega) (fun hc => ?_) (fun hc => ?_)
  · refine r_iconst X (x := (nI 0)) d_Poly_matches_13 (by decide) ?_
    refine r_istore_n X d_Poly_matches_14 (by decide) ?_
    exact loop (tp f n) 0 (by omega) hc (fun j hj => by omega)
  · refine r_iconst X (x := (nI 0)) d_Poly_matches_11 (by decide) ?_
    refine hR _ _ _ _ d_Poly_matches_12 (by decide) ⟨_, rfl, rfl, Or.inr ⟨rfl, fun z => hc ?_⟩⟩
    subst z
    exact tp_two hf.2 hg.2
def scl (c : Nat) (f : Nat → Nat) : Nat → Nat := fun i => f i * c % 10007
theorem scl_ok {n c : Nat} {f : Nat → Nat} (h : okP n f) : okP n (scl c f) := ⟨fun i => Nat.mod_lt _ (by decide), fun i hi => by unfold scl; rw [h.2 i hi]; simp⟩
set_option maxHeartbeats 4000000 in
set_option maxRecDepth 100000 in
theorem c_scale {q n c : Nat} {f : Nat → Nat} (hp : isP G q n) (hf : okP n f) (hs : pIs S q n f) (hc7 : c < 10007) : CT (mkE l D cI cT) G y_Poly_scale b_Poly_scale 3 none 1 [.ref q, .int (nI c)] S (Pv (fun S' => pIs S' q n (scl c f) ∧ Out S S' q 2)) := by
  have hp0 := hp
  obtain ⟨hq, ha, hn2, hnn⟩ := hp
  obtain ⟨hs1, hs2⟩ := hs
  have htp := tp_le f n
  refine mk_v (by decide) (eok l D cI cT) (by simp [Value.category]) (Nat.le_of_ble_eq_true rfl) (fun J X hR => ?_)
  show J S 0 [some (.ref q), some (.int (nI c)), none] []
  have loop : ∀ m i S1, i + m = tp f n → S1 = arS S (q + 1) (fun j => if j < i then scl c f j else f j) → J S1 2 [some (.ref q), some (.int (nI c)), some (.int (nI i))] [] := by
    intro m
    induction m with
    | zero =>
      intro i S1 hi hS
      have e2 : S1.2 q = tI (tp f n) := by rw [hS]; exact hs2
      refine r_iload_n X d_Poly_scale_2 (by rfl) ?_
      refine r_aload_n X d_Poly_scale_3 (by rfl) ?_
      refine r_get X lf_Poly_15 d_Poly_scale_4 (by assumption) (by rfl) ?_
      rw [e2]
      refine r_icmp_gtT X d_Poly_scale_7 (tgt := 34) (by decide) (by omega) (by omega) (fun hc => ?_) (fun hc => ?_)
      · refine r_aload_n X d_Poly_scale_34 (by rfl) ?_
        have e3 : S1.1 (q + 1) = scl c f := by
          rw [hS, arS_1]
          funext j
          split
          · rfl
          · unfold scl
            rw [hf.tz (by omega)]
            simp
        refine r_cVv X lv_Poly_28 (c_trim hp0 (fun i _ => by rw [e3]; exact (scl_ok hf).1 i)) (by assumption) (by decide) rfl (Nat.le_of_ble_eq_true rfl) d_Poly_scale_35 rfl (fun S3 h3 => ?_)
        subst h3
        refine hR _ _ _ d_Poly_scale_38 ⟨rfl, pIs_trim e3, ?_⟩
        rw [hS]
        exact (Out.ar (by omega) (by omega)).trans (Out.fd (by omega) (by omega))
      · omega
    | succ m ih =>
      intro i S1 hi hS
      have e2 : S1.2 q = tI (tp f n) := by rw [hS]; exact hs2
      have e1 : S1.1 (q + 1) i = f i := by rw [hS, arS_1, if_neg (by omega)]
      refine r_iload_n X d_Poly_scale_2 (by rfl) ?_
      refine r_aload_n X d_Poly_scale_3 (by rfl) ?_
      refine r_get X lf_Poly_15 d_Poly_scale_4 (by assumption) (by rfl) ?_
      rw [e2]
      refine r_icmp_gtT X d_Poly_scale_7 (tgt := 34) (by decide) (by omega) (by omega) (fun hc => ?_) (fun hc => ?_)
      · omega
      · have b1 := hf.1 i
        have hm := mul_bd b1 hc7
        refine r_aload_n X d_Poly_scale_10 (by rfl) ?_
        refine r_get X lf_Poly_9 d_Poly_scale_11 (by assumption) (by rfl) ?_
        refine r_iload_n X d_Poly_scale_14 (by rfl) ?_
        refine r_aload_n X d_Poly_scale_15 (by rfl) ?_
        refine r_get X lf_Poly_9 d_Poly_scale_16 (by assumption) (by rfl) ?_
        refine r_iload_n X d_Poly_scale_19 (by rfl) ?_
        refine r_iald X d_Poly_scale_20 (by assumption) (by omega) (by omega) ?_
        rw [e1]
        refine r_iload_n X d_Poly_scale_21 (by rfl) ?_
        first | refine r_imulN X d_Poly_scale_22 ?_ | refine r_imul X d_Poly_scale_22 ?_
        refine r_sipush X (x := (nI 10007)) d_Poly_scale_23 (by decide) ?_
        refine r_iremN X d_Poly_scale_26 (by decide) (by decide) (by omega) ?_
        refine r_iast X d_Poly_scale_27 (by assumption) (by omega) (by omega) ?_
        refine r_iincN X 1 d_Poly_scale_28 (by rfl) (by decide) (by decide) ?_
        refine r_goto X d_Poly_scale_31 (tgt := 2) (by decide) ?_
        refine ih (i + 1) _ (by omega) ?_
        rw [hS, arS_arS, arS_1]
        congr 1
        exact up_lt (scl c f) f i
  refine r_iconst X (x := (nI 0)) d_Poly_scale_0 (by decide) ?_
  refine r_istore_n X d_Poly_scale_1 (by decide) ?_
  refine loop (tp f n) 0 _ (by omega) ?_
  rw [if_lt0 (scl c f), ← hs1, arS_id]
def ads (n c : Nat) (f g : Nat → Nat) : Nat → Nat := fun i => if i < n then (f i + g i * c) % 10007 else 0
theorem ads_ok (n c : Nat) (f g : Nat → Nat) : okP n (ads n c f g) := by
  refine ⟨fun i => ?_, fun i hi => ?_⟩
  · unfold ads
    split
    · exact Nat.mod_lt _ (by decide)
    · decide
  · unfold ads
    rw [if_neg (by omega)]
set_option maxHeartbeats 4000000 in
set_option maxRecDepth 100000 in
theorem c_addScaled {q n q' n' c : Nat} {f g : Nat → Nat} (hp : isP G q n) (hp' : isP G q' n') (hne : q ≠ q') (hf : okP n f) (hg : okP n' g) (hs : S.1 (q + 1) = f) (hs' : S.1 (q' + 1) = g) (hc7 : c < 10007) : CT (mkE l D cI cT) G y_Poly_addScaled b_Poly_addScaled 5 none 1 [.ref q, .ref q', .int (nI c)] S (Pv (fun S' => pIs S' q n (ads n c f g) ∧ Out S S' q 2)) := by
  have hp0 := hp
  obtain ⟨hq, ha, hn2, hnn⟩ := hp
  obtain ⟨hq', ha', hn2', hnn'⟩ := hp'
  refine mk_v (by decide) (eok l D cI cT) (by simp [Value.category]) (Nat.le_of_ble_eq_true rfl) (fun J X hR => ?_)
  show J S 0 [some (.ref q), some (.ref q'), some (.int (nI c)), none, none] []
  have loop : ∀ m i S1, i + m = min n n' → S1 = arS S (q + 1) (fun j => if j < i then ads n c f g j else f j) → J S1 17 [some (.ref q), some (.ref q'), some (.int (nI c)), some (.int (nI (min n n'))), some (.int (nI i))] [] := by
    intro m
    induction m with
    | zero =>
      intro i S1 hi hS
      refine r_iload X d_Poly_addScaled_17 (by rfl) ?_
      refine r_iload_n X d_Poly_addScaled_19 (by rfl) ?_
      refine r_icmp_geN X d_Poly_addScaled_20 (tgt := 57) (by decide) (by omega) (by omega) (fun hc => ?_) (fun hc => ?_)
      · refine r_aload_n X d_Poly_addScaled_57 (by rfl) ?_
        have e3 : S1.1 (q + 1) = ads n c f g := by
          rw [hS, arS_1]
          funext j
          split
          · rfl
          · unfold ads
            by_cases h : j < n
            · have := hf.1 j
              rw [if_pos h, hg.2 j (by omega)]
              simp
              omega
            · rw [if_neg h, hf.2 j (by omega)]
        refine r_cVv X lv_Poly_28 (c_trim hp0 (fun i _ => by rw [e3]; exact (ads_ok n c f g).1 i)) (by assumption) (by decide) rfl (Nat.le_of_ble_eq_true rfl) d_Poly_addScaled_58 rfl (fun S3 h3 => ?_)
        subst h3
        refine hR _ _ _ d_Poly_addScaled_61 ⟨rfl, pIs_trim e3, ?_⟩
        rw [hS]
        exact (Out.ar (by omega) (by omega)).trans (Out.fd (by omega) (by omega))
      · omega
    | succ m ih =>
      intro i S1 hi hS
      have e1 : S1.1 (q + 1) i = f i := by rw [hS, arS_1, if_neg (by omega)]
      have e1' : S1.1 (q' + 1) i = g i := by rw [hS, arS_1n (by omega), hs']
      refine r_iload X d_Poly_addScaled_17 (by rfl) ?_
      refine r_iload_n X d_Poly_addScaled_19 (by rfl) ?_
      refine r_icmp_geN X d_Poly_addScaled_20 (tgt := 57) (by decide) (by omega) (by omega) (fun hc => ?_) (fun hc => ?_)
      · omega
      · have b1 := hf.1 i
        have b2 := hg.1 i
        have hm := mul_bd b2 hc7
        refine r_aload_n X d_Poly_addScaled_23 (by rfl) ?_
        refine r_get X lf_Poly_9 d_Poly_addScaled_24 (by assumption) (by rfl) ?_
        refine r_iload X d_Poly_addScaled_27 (by rfl) ?_
        refine r_aload_n X d_Poly_addScaled_29 (by rfl) ?_
        refine r_get X lf_Poly_9 d_Poly_addScaled_30 (by assumption) (by rfl) ?_
        refine r_iload X d_Poly_addScaled_33 (by rfl) ?_
        refine r_iald X d_Poly_addScaled_35 (by assumption) (by omega) (by omega) ?_
        refine r_aload_n X d_Poly_addScaled_36 (by rfl) ?_
        refine r_get X lf_Poly_9 d_Poly_addScaled_37 (by assumption) (by rfl) ?_
        refine r_iload X d_Poly_addScaled_40 (by rfl) ?_
        refine r_iald X d_Poly_addScaled_42 (by assumption) (by omega) (by omega) ?_
        rw [e1, e1']
        refine r_iload_n X d_Poly_addScaled_43 (by rfl) ?_
        first | refine r_imulN X d_Poly_addScaled_44 ?_ | refine r_imul X d_Poly_addScaled_44 ?_
        first | refine r_iaddN X d_Poly_addScaled_45 ?_ | refine r_iadd X d_Poly_addScaled_45 ?_
        refine r_sipush X (x := (nI 10007)) d_Poly_addScaled_46 (by decide) ?_
        refine r_iremN X d_Poly_addScaled_49 (by decide) (by decide) (by omega) ?_
        refine r_iast X d_Poly_addScaled_50 (by assumption) (by omega) (by omega) ?_
        refine r_iincN X 1 d_Poly_addScaled_51 (by rfl) (by decide) (by decide) ?_
        refine r_goto X d_Poly_addScaled_54 (tgt := 17) (by decide) ?_
        refine ih (i + 1) _ (by omega) ?_
        rw [hS, arS_arS, arS_1, ← up_lt (ads n c f g) f i]
        congr 2
        unfold ads
        rw [if_pos (by omega)]
  refine r_aload_n X d_Poly_addScaled_0 (by rfl) ?_
  refine r_get X lf_Poly_9 d_Poly_addScaled_1 (by assumption) (by rfl) ?_
  refine r_alen X d_Poly_addScaled_4 (by assumption) ?_
  refine r_aload_n X d_Poly_addScaled_5 (by rfl) ?_
  refine r_get X lf_Poly_9 d_Poly_addScaled_6 (by assumption) (by rfl) ?_
  refine r_alen X d_Poly_addScaled_9 (by assumption) ?_
  refine r_mminN X lm_Poly_31 (by decide) (Nat.le_of_ble_eq_true rfl) (by omega) (by omega) d_Poly_addScaled_10 ?_
  refine r_istore_n X d_Poly_addScaled_13 (by decide) ?_
  refine r_iconst X (x := (nI 0)) d_Poly_addScaled_14 (by decide) ?_
  refine r_istore X d_Poly_addScaled_15 (by decide) ?_
  refine loop (min n n') 0 _ (by omega) ?_
  rw [if_lt0 (ads n c f g), ← hs, arS_id]
set_option maxHeartbeats 4000000 in
set_option maxRecDepth 100000 in
theorem c_divideBy {q n b : Nat} {f : Nat → Nat} (hp : isP G q n) (hf : okP n f) (hs : pIs S q n f) (hb7 : b < 10007) : CT (mkE l D cI cT) G y_Poly_divideBy b_Poly_divideBy 6 (some .int) 2 [.ref q, .int (nI b)] S (Pi (fun S' r => (pIs S' q n (dq n ((10007 - b) % 10007) f) ∧ Out S S' q 2) ∧ r = nI (hn f ((10007 - b) % 10007) n 0))) := by
  have hp0 := hp
  obtain ⟨hq, ha, hn2, hnn⟩ := hp
  obtain ⟨hs1, hs2⟩ := hs
  have htp := tp_le f n
  refine mk_i (by decide) (eok l D cI cT) (by simp [Value.category]) (Nat.le_of_ble_eq_true rfl) (fun J X hR => ?_)
  show J S 0 [some (.ref q), some (.int (nI b)), none, none, none, none] []
  generalize hr7 : (10007 - b) % 10007 = r at *
  have hr : r < 10007 := by omega
  have loop : ∀ t y v S1, t ≤ n → y = hn f r (n - t) t → S1 = arS S (q + 1) (fun j => if t ≤ j then dq n r f j else f j) → J S1 14 [some (.ref q), some (.int (nI b)), some (.int (nI r)), some (.int (nI y)), some (.int (tI t)), v] [] := by
    intro t
    induction t with
    | zero =>
      intro y v S1 ht hy hS
      refine r_iload X d_Poly_divideBy_14 (by rfl) ?_
      refine r_if_ltT X d_Poly_divideBy_16 (tgt := 53) (by decide) (by omega) (fun hc => ?_) (fun u hc => ?_)
      · refine r_aload_n X d_Poly_divideBy_53 (by rfl) ?_
        have e3 : S1.1 (q + 1) = dq n r f := by
          rw [hS, arS_1]
          funext j
          rw [if_pos (by omega)]
        refine r_cVv X lv_Poly_28 (c_trim hp0 (fun i _ => by rw [e3]; exact (dq_ok n r f).1 i)) (by assumption) (by decide) rfl (Nat.le_of_ble_eq_true rfl) d_Poly_divideBy_54 rfl (fun S3 h3 => ?_)
        subst h3
        refine r_iload_n X d_Poly_divideBy_57 (by rfl) ?_
        refine hR _ _ _ _ d_Poly_divideBy_58 rfl ⟨_, rfl, ⟨pIs_trim e3, ?_⟩, by rw [hy]; rfl⟩
        rw [hS]
        exact (Out.ar (by omega) (by omega)).trans (Out.fd (by omega) (by omega))
      · omega
    | succ t ih =>
      intro y v S1 ht hy hS
      refine r_iload X d_Poly_divideBy_14 (by rfl) ?_
      refine r_if_ltT X d_Poly_divideBy_16 (tgt := 53) (by decide) (by omega) (fun hc => ?_) (fun u hc => ?_)
      · omega
      · rw [tI_s]
        have e1 : S1.1 (q + 1) t = f t := by rw [hS, arS_1, if_neg (by omega)]
        have hy7 : y < 10007 := by rw [hy]; exact hn_lt _ _ _ _
        have hm := mul_bd hy7 hr
        have hft := hf.1 t
        refine r_iload_n X d_Poly_divideBy_19 (by rfl) ?_
        refine r_iload_n X d_Poly_divideBy_20 (by rfl) ?_
        first | refine r_imulN X d_Poly_divideBy_21 ?_ | refine r_imul X d_Poly_divideBy_21 ?_
        refine r_aload_n X d_Poly_divideBy_22 (by rfl) ?_
        refine r_get X lf_Poly_9 d_Poly_divideBy_23 (by assumption) (by rfl) ?_
        refine r_iload X d_Poly_divideBy_26 (by rfl) ?_
        refine r_iald X d_Poly_divideBy_28 (by assumption) (by omega) (by omega) ?_
        rw [e1]
        first | refine r_iaddN X d_Poly_divideBy_29 ?_ | refine r_iadd X d_Poly_divideBy_29 ?_
        refine r_sipush X (x := (nI 10007)) d_Poly_divideBy_30 (by decide) ?_
        refine r_iremN X d_Poly_divideBy_33 (by decide) (by decide) (by omega) ?_
        refine r_istore X d_Poly_divideBy_34 (by decide) ?_
        refine r_aload_n X d_Poly_divideBy_36 (by rfl) ?_
        refine r_get X lf_Poly_9 d_Poly_divideBy_37 (by assumption) (by rfl) ?_
        refine r_iload X d_Poly_divideBy_40 (by rfl) ?_
        refine r_iload_n X d_Poly_divideBy_42 (by rfl) ?_
        refine r_iast X d_Poly_divideBy_43 (by assumption) (by omega) (by omega) ?_
        refine r_iload X d_Poly_divideBy_44 (by rfl) ?_
        refine r_istore_n X d_Poly_divideBy_46 (by decide) ?_
        refine r_iincD X d_Poly_divideBy_47 (by rfl) (by decide) ?_
        refine r_goto X d_Poly_divideBy_50 (tgt := 14) (by decide) ?_
        refine ih _ _ _ (by omega) ?_ ?_
        · rw [show n - t = (n - (t + 1)) + 1 by omega]
          show _ = (hn f r (n - (t + 1)) (t + 1) * r + f t) % 10007
          rw [← hy]
        · rw [hS, arS_arS, arS_1, ← up_ge (dq n r f) f t, hy]
          rfl
  refine r_iload_n X d_Poly_divideBy_0 (by rfl) ?_
  refine r_ineg X d_Poly_divideBy_1 ?_
  refine r_cSi X ls_Poly_37 c_of (by decide) rfl (Nat.le_of_ble_eq_true rfl) d_Poly_divideBy_2 rfl (fun S1 x h1 => ?_)
  obtain ⟨rfl, rfl⟩ := h1
  rw [em_neg hb7, hr7]
  refine r_istore_n X d_Poly_divideBy_5 (by decide) ?_
  refine r_iconst X (x := (nI 0)) d_Poly_divideBy_6 (by decide) ?_
  refine r_istore_n X d_Poly_divideBy_7 (by decide) ?_
  refine r_aload_n X d_Poly_divideBy_8 (by rfl) ?_
  refine r_get X lf_Poly_15 d_Poly_divideBy_9 (by assumption) (by rfl) ?_
  refine r_int hs2 ?_
  refine r_istore X d_Poly_divideBy_12 (by decide) ?_
  refine loop (tp f n) 0 _ _ htp ?_ ?_
  · rw [hn_0 (fun j hj => hf.tz hj)]
  · rw [show (fun j => if tp f n ≤ j then dq n r f j else f j) = f by
      funext j
      split
      · next h =>
        rw [hf.tz h]
        unfold dq
        exact hn_0 (fun i hi => hf.tz (by omega))
      · rfl, ← hs1, arS_id]
end P2
end
section
section P3
variable {l : Launch} {D : va_G} {cI cT : ClassId} {G : Gm} {S : Sg}
theorem mt_hi {n b j : Nat} {f : Nat → Nat} (h1 : f j = 0) (h2 : j ≠ 0 → f (j - 1) = 0) : mt n b f j = 0 := by
  unfold mt
  split
  · rw [h1]
    by_cases h : j = 0
    · rw [if_pos h]; simp
    · rw [if_neg h, h2 h]; simp
  · rfl
set_option maxHeartbeats 4000000 in
set_option maxRecDepth 100000 in
theorem c_multiplyBy {q n b t : Nat} {f : Nat → Nat} (hp : isP G q n) (hf : okP n f) (hs : pIs S q n f) (hb7 : b < 10007) (ht : t < 1000) : CT (mkE l D cI cT) G y_Poly_multiplyBy b_Poly_multiplyBy 5 none 1 [.ref q, .int (nI b), .int (nI t)] S (Pv (fun S' => pIs S' q n (mtN n b t f) ∧ Out S S' q 2)) := by
  have hp0 := hp
  obtain ⟨hq, ha, hn2, hnn⟩ := hp
  refine mk_v (by decide) (eok l D cI cT) (by simp [Value.category]) (Nat.le_of_ble_eq_true rfl) (fun J X hR => ?_)
  show J S 0 [some (.ref q), some (.int (nI b)), some (.int (nI t)), none, none] []
  have loop : ∀ m u g S1 v, u + m = t → okP n g → pIs S1 q n g → Out S S1 q 2 → mtN n b m g = mtN n b t f → J S1 2 [some (.ref q), some (.int (nI b)), some (.int (nI t)), some (.int (nI u)), v] [] := by
    intro m
    induction m with
    | zero =>
      intro u g S1 v hu hg hs1 ho he
      refine r_iload_n X d_Poly_multiplyBy_2 (by rfl) ?_
      refine r_iload_n X d_Poly_multiplyBy_3 (by rfl) ?_
      refine r_icmp_geN X d_Poly_multiplyBy_4 (tgt := 94) (by decide) (by omega) (by omega) (fun hc => ?_) (fun hc => ?_)
      · refine hR _ _ _ d_Poly_multiplyBy_94 ⟨rfl, ?_, ho⟩
        rw [← he]
        exact hs1
      · omega
    | succ m ih =>
      intro u g S1 v hu hg hs1 ho he
      obtain ⟨hs1, hs2⟩ := hs1
      have htp := tp_le g n
      have inner : ∀ i S2, i < n → S2 = arS S1 (q + 1) (fun j => if i + 1 ≤ j then mt n b g j else g j) → J S2 25 [some (.ref q), some (.int (nI b)), some (.int (nI t)), some (.int (nI u)), some (.int (nI i))] [] := by
        intro i
        induction i with
        | zero =>
          intro S2 hi hS
          have e1 : S2.1 (q + 1) 0 = g 0 := by rw [hS, arS_1, if_neg (by omega)]
          have b1 := hg.1 0
          have hm := mul_bd b1 hb7
          refine r_iload X d_Poly_multiplyBy_25 (by rfl) ?_
          refine r_if_leN X d_Poly_multiplyBy_27 (tgt := 66) (by decide) (by omega) (fun hc => ?_) (fun hc => ?_)
          · refine r_aload_n X d_Poly_multiplyBy_66 (by rfl) ?_
            refine r_get X lf_Poly_9 d_Poly_multiplyBy_67 (by assumption) (by rfl) ?_
            refine r_iconst X (x := (nI 0)) d_Poly_multiplyBy_70 (by decide) ?_
            refine r_aload_n X d_Poly_multiplyBy_71 (by rfl) ?_
            refine r_get X lf_Poly_9 d_Poly_multiplyBy_72 (by assumption) (by rfl) ?_
            refine r_iconst X (x := (nI 0)) d_Poly_multiplyBy_75 (by decide) ?_
            refine r_iald X d_Poly_multiplyBy_76 (by assumption) (by omega) (by omega) ?_
            rw [e1]
            refine r_iload_n X d_Poly_multiplyBy_77 (by rfl) ?_
            first | refine r_imulN X d_Poly_multiplyBy_78 ?_ | refine r_imul X d_Poly_multiplyBy_78 ?_
            refine r_sipush X (x := (nI 10007)) d_Poly_multiplyBy_79 (by decide) ?_
            refine r_iremN X d_Poly_multiplyBy_82 (by decide) (by decide) (by omega) ?_
            refine r_iast X d_Poly_multiplyBy_83 (by assumption) (by omega) (by omega) ?_
            refine r_aload_n X d_Poly_multiplyBy_84 (by rfl) ?_
            have e3 : (arS S2 (q + 1) (va_up (S2.1 (q + 1)) 0 (g 0 * b % 10007))).1 (q + 1) = mt n b g := by
              rw [arS_1, hS, arS_1]
              have e4 : g 0 * b % 10007 = mt n b g 0 := by
                unfold mt
                rw [if_pos (by omega), if_pos rfl, Nat.add_zero]
              rw [e4, up_ge (mt n b g) g 0]
              funext j
              rw [if_pos (by omega)]
            have ho2 : Out S1 (arS S2 (q + 1) (va_up (S2.1 (q + 1)) 0 (g 0 * b % 10007))) q 2 := by
              rw [hS]
              exact (Out.ar (by omega) (by omega)).trans (Out.ar (by omega) (by omega))
            revert e3 ho2
            generalize arS S2 (q + 1) (va_up (S2.1 (q + 1)) 0 (g 0 * b % 10007)) = S4
            intro e3 ho2
            refine r_cVv X lv_Poly_28 (c_trim hp0 (fun i _ => by rw [e3]; exact (mt_ok n b g).1 i)) (by assumption) (by decide) rfl (Nat.le_of_ble_eq_true rfl) d_Poly_multiplyBy_85 rfl (fun S5 h5 => ?_)
            subst h5
            refine r_iincN X 1 d_Poly_multiplyBy_88 (by rfl) (by decide) (by decide) ?_
            refine r_goto X d_Poly_multiplyBy_91 (tgt := 2) (by decide) ?_
            refine ih (u + 1) (mt n b g) _ _ (by omega) (mt_ok n b g) (pIs_trim e3) ((ho.trans ho2).trans (Out.fd (by omega) (by omega))) he
          · omega
        | succ i ihi =>
          intro S2 hi hS
          have e1 : S2.1 (q + 1) (i + 1) = g (i + 1) := by rw [hS, arS_1, if_neg (by omega)]
          have e1' : S2.1 (q + 1) i = g i := by rw [hS, arS_1, if_neg (by omega)]
          have b1 := hg.1 (i + 1)
          have b2 := hg.1 i
          have hm := mul_bd b1 hb7
          refine r_iload X d_Poly_multiplyBy_25 (by rfl) ?_
          refine r_if_leN X d_Poly_multiplyBy_27 (tgt := 66) (by decide) (by omega) (fun hc => ?_) (fun hc => ?_)
          · omega
          · refine r_aload_n X d_Poly_multiplyBy_30 (by rfl) ?_
            refine r_get X lf_Poly_9 d_Poly_multiplyBy_31 (by assumption) (by rfl) ?_
            refine r_iload X d_Poly_multiplyBy_34 (by rfl) ?_
            refine r_aload_n X d_Poly_multiplyBy_36 (by rfl) ?_
            refine r_get X lf_Poly_9 d_Poly_multiplyBy_37 (by assumption) (by rfl) ?_
            refine r_iload X d_Poly_multiplyBy_40 (by rfl) ?_
            refine r_iald X d_Poly_multiplyBy_42 (by assumption) (by omega) (by omega) ?_
            rw [e1]
            refine r_iload_n X d_Poly_multiplyBy_43 (by rfl) ?_
            first | refine r_imulN X d_Poly_multiplyBy_44 ?_ | refine r_imul X d_Poly_multiplyBy_44 ?_
            refine r_aload_n X d_Poly_multiplyBy_45 (by rfl) ?_
            refine r_get X lf_Poly_9 d_Poly_multiplyBy_46 (by assumption) (by rfl) ?_
            refine r_iload X d_Poly_multiplyBy_49 (by rfl) ?_
            refine r_iconst X (x := (nI 1)) d_Poly_multiplyBy_51 (by decide) ?_
            first | refine r_isubN X d_Poly_multiplyBy_52 (by omega) ?_ | refine r_isub X d_Poly_multiplyBy_52 ?_
            refine r_int (y := nI i) (by rw [show i + 1 - 1 = i by omega]) ?_
            refine r_iald X d_Poly_multiplyBy_53 (by assumption) (by omega) (by omega) ?_
            rw [e1']
            first | refine r_iaddN X d_Poly_multiplyBy_54 ?_ | refine r_iadd X d_Poly_multiplyBy_54 ?_
            refine r_sipush X (x := (nI 10007)) d_Poly_multiplyBy_55 (by decide) ?_
            refine r_iremN X d_Poly_multiplyBy_58 (by decide) (by decide) (by omega) ?_
            refine r_iast X d_Poly_multiplyBy_59 (by assumption) (by omega) (by omega) ?_
            refine r_iincD X d_Poly_multiplyBy_60 (by rfl) (by decide) ?_
            refine r_goto X d_Poly_multiplyBy_63 (tgt := 25) (by decide) ?_
            refine r_forget X (L' := [some (.ref q), some (.int (nI b)), some (.int (nI t)), some (.int (nI u)), some (.int (nI i))]) ?_ (ihi _ (by omega) ?_)
            · intro k w hk
              rw [tI_s i]
              exact hk
            · rw [hS, arS_arS, arS_1, ← up_ge (mt n b g) g (i + 1)]
              congr 2
              unfold mt
              rw [if_pos (by omega), if_neg (by omega), show i + 1 - 1 = i by omega]
      refine r_iload_n X d_Poly_multiplyBy_2 (by rfl) ?_
      refine r_iload_n X d_Poly_multiplyBy_3 (by rfl) ?_
      refine r_icmp_geN X d_Poly_multiplyBy_4 (tgt := 94) (by decide) (by omega) (by omega) (fun hc => ?_) (fun hc => ?_)
      · omega
      · refine r_aload_n X d_Poly_multiplyBy_7 (by rfl) ?_
        refine r_get X lf_Poly_15 d_Poly_multiplyBy_8 (by assumption) (by rfl) ?_
        rw [hs2]
        refine r_iconst X (x := nI 1) d_Poly_multiplyBy_11 (by decide) ?_
        refine r_iadd X d_Poly_multiplyBy_12 ?_
        refine r_int (tI_add _) ?_
        refine r_aload_n X d_Poly_multiplyBy_13 (by rfl) ?_
        refine r_get X lf_Poly_9 d_Poly_multiplyBy_14 (by assumption) (by rfl) ?_
        refine r_alen X d_Poly_multiplyBy_17 (by assumption) ?_
        refine r_iconst X (x := (nI 1)) d_Poly_multiplyBy_18 (by decide) ?_
        first | refine r_isubN X d_Poly_multiplyBy_19 (by omega) ?_ | refine r_isub X d_Poly_multiplyBy_19 ?_
        refine r_mminN X lm_Poly_31 (by decide) (Nat.le_of_ble_eq_true rfl) (by omega) (by omega) d_Poly_multiplyBy_20 ?_
        refine r_istore X d_Poly_multiplyBy_23 (by decide) ?_
        refine inner _ _ (by omega) ?_
        rw [show (fun j => if min (tp g n) (n - 1) + 1 ≤ j then mt n b g j else g j) = g by
          funext j
          split
          · next h =>
            by_cases hj : j < n
            · rw [hg.tz (by omega), mt_hi (hg.tz (by omega)) (fun _ => hg.tz (by omega))]
            · rw [hg.2 j (by omega), (mt_ok n b g).2 j (by omega)]
          · rfl, ← hs1, arS_id]
  refine r_iconst X (x := (nI 0)) d_Poly_multiplyBy_0 (by decide) ?_
  refine r_istore_n X d_Poly_multiplyBy_1 (by decide) ?_
  exact loop t 0 f S _ (by omega) hf hs (Out.rf _ _ _) rfl
def cvr (f g : Nat → Nat) : Nat → Nat → Nat
  | 0, _ => 0
  | i + 1, k => if i ≤ k then (cvr f g i k + f i * g (k - i)) % 10007 else cvr f g i k
theorem cvr_lt (f g : Nat → Nat) (i k : Nat) : cvr f g i k < 10007 := by
  induction i with
  | zero => exact (by decide : 0 < 10007)
  | succ i ih =>
    unfold cvr
    split
    · exact Nat.mod_lt _ (by decide)
    · exact ih
theorem cvr_more {f : Nat → Nat} (g : Nat → Nat) {n : Nat} (k : Nat) (h : ∀ i, n ≤ i → f i = 0) : ∀ m, cvr f g (n + m) k = cvr f g n k := by
  intro m
  induction m with
  | zero => rfl
  | succ m ih =>
    show (if n + m ≤ k then (cvr f g (n + m) k + f (n + m) * g (k - (n + m))) % 10007 else cvr f g (n + m) k) = _
    rw [ih, h (n + m) (by omega)]
    have := cvr_lt f g n k
    split
    · simp
      omega
    · rfl
def prd (n m : Nat) (f g : Nat → Nat) : Nat → Nat := fun k => if k < n then cvr f g m k else 0
theorem prd_ok (n m : Nat) (f g : Nat → Nat) : okP n (prd n m f g) := by
  refine ⟨fun i => ?_, fun i hi => ?_⟩
  · unfold prd
    split
    · exact cvr_lt _ _ _ _
    · decide
  · unfold prd
    rw [if_neg (by omega)]
set_option maxHeartbeats 4000000 in
set_option maxRecDepth 100000 in
theorem c_pproduct {q n qa na qb nb : Nat} {f g : Nat → Nat} (hp : isP G q n) (hpa : isP G qa na) (hpb : isP G qb nb) (hna : q ≠ qa) (hnb : q ≠ qb) (hf : okP na f) (hg : okP nb g) (hsa : pIs S qa na f) (hsb : pIs S qb nb g) : CT (mkE l D cI cT) G y_Poly_becomeProduct b_Poly_becomeProduct 5 none 2 [.ref q, .ref qa, .ref qb] S (Pv (fun S' => pIs S' q n (prd n na f g) ∧ Out S S' q 2)) := by
  have hp0 := hp
  have sa := hp.sep hpa hna
  have sb := hp.sep hpb hnb
  obtain ⟨hq, ha, hn2, hnn⟩ := hp
  obtain ⟨hqa, haa, hna2, hnna⟩ := hpa
  obtain ⟨hqb, hab, hnb2, hnnb⟩ := hpb
  have htf := tp_le f na
  have htg := tp_le g nb
  refine mk_v (by decide) (eok l D cI cT) (by simp [Value.category]) (Nat.le_of_ble_eq_true rfl) (fun J X hR => ?_)
  show J S 0 [some (.ref q), some (.ref qa), some (.ref qb), none, none] []
  refine r_aload_n X d_Poly_becomeProduct_0 (by rfl) ?_
  refine r_cVv X lv_Poly_25 (c_clear hp0) (by assumption) (by decide) rfl (Nat.le_of_ble_eq_true rfl) d_Poly_becomeProduct_1 rfl (fun S1 h1 => ?_)
  obtain ⟨⟨h1, h2⟩, ho⟩ := h1
  have hsa := hsa.out ho (by omega)
  have hsb := hsb.out ho (by omega)
  obtain ⟨ha1, ha2⟩ := hsa
  obtain ⟨hb1, hb2⟩ := hsb
  have loop : ∀ m i S2 v, i + m = tp f na → S2 = arS S1 (q + 1) (prd n i f g) → J S2 6 [some (.ref q), some (.ref qa), some (.ref qb), some (.int (nI i)), v] [] := by
    intro m
    induction m with
    | zero =>
      intro i S2 v hi hS
      have e2 : S2.2 qa = tI (tp f na) := by rw [hS]; exact ha2
      refine r_iload_n X d_Poly_becomeProduct_6 (by rfl) ?_
      refine r_aload_n X d_Poly_becomeProduct_7 (by rfl) ?_
      refine r_get X lf_Poly_15 d_Poly_becomeProduct_8 (by assumption) (by rfl) ?_
      rw [e2]
      refine r_icmp_gtT X d_Poly_becomeProduct_11 (tgt := 87) (by decide) (by omega) (by omega) (fun hc => ?_) (fun hc => ?_)
      · refine r_aload_n X d_Poly_becomeProduct_87 (by rfl) ?_
        have e3 : S2.1 (q + 1) = prd n na f g := by
          rw [hS, arS_1]
          funext k
          unfold prd
          rw [show na = i + (na - i) by omega, cvr_more g k (fun j hj => hf.tz (by omega))]
        refine r_cVv X lv_Poly_28 (c_trim hp0 (fun i _ => by rw [e3]; exact (prd_ok n na f g).1 i)) (by assumption) (by decide) rfl (Nat.le_of_ble_eq_true rfl) d_Poly_becomeProduct_88 rfl (fun S5 h5 => ?_)
        subst h5
        refine hR _ _ _ d_Poly_becomeProduct_91 ⟨rfl, pIs_trim e3, ?_⟩
        rw [hS]
        exact (ho.trans (Out.ar (by omega) (by omega))).trans (Out.fd (by omega) (by omega))
      · omega
    | succ m ih =>
      intro i S2 v hi hS
      have e2 : S2.2 qa = tI (tp f na) := by rw [hS]; exact ha2
      have inner : ∀ k j S3, j + k = tp g nb → S3 = arS S1 (q + 1) (fun x => if x < i + j then prd n (i + 1) f g x else prd n i f g x) → J S3 17 [some (.ref q), some (.ref qa), some (.ref qb), some (.int (nI i)), some (.int (nI j))] [] := by
        intro k
        induction k with
        | zero =>
          intro j S3 hj hS3
          have e5 : S3.2 qb = tI (tp g nb) := by rw [hS3]; exact hb2
          refine r_iload X d_Poly_becomeProduct_17 (by rfl) ?_
          refine r_aload_n X d_Poly_becomeProduct_19 (by rfl) ?_
          refine r_get X lf_Poly_15 d_Poly_becomeProduct_20 (by assumption) (by rfl) ?_
          rw [e5]
          refine r_icmp_gtT X d_Poly_becomeProduct_23 (tgt := 81) (by decide) (by omega) (by omega) (fun hc => ?_) (fun hc => ?_)
          · refine r_iincN X 1 d_Poly_becomeProduct_81 (by rfl) (by decide) (by decide) ?_
            refine r_goto X d_Poly_becomeProduct_84 (tgt := 6) (by decide) ?_
            refine ih (i + 1) _ _ (by omega) ?_
            rw [hS3]
            congr 1
            funext x
            split
            · rfl
            · unfold prd
              split
              · show _ = if i ≤ x then (cvr f g i x + f i * g (x - i)) % 10007 else cvr f g i x
                have := cvr_lt f g i x
                rw [if_pos (by omega), hg.tz (i := x - i) (by omega)]
                simp
                omega
              · rfl
          · omega
        | succ k ihk =>
          intro j S3 hj hS3
          have e5 : S3.2 qb = tI (tp g nb) := by rw [hS3]; exact hb2
          refine r_iload X d_Poly_becomeProduct_17 (by rfl) ?_
          refine r_aload_n X d_Poly_becomeProduct_19 (by rfl) ?_
          refine r_get X lf_Poly_15 d_Poly_becomeProduct_20 (by assumption) (by rfl) ?_
          rw [e5]
          refine r_icmp_gtT X d_Poly_becomeProduct_23 (tgt := 81) (by decide) (by omega) (by omega) (fun hc => ?_) (fun hc => ?_)
          · omega
          · refine r_iload_n X d_Poly_becomeProduct_26 (by rfl) ?_
            refine r_iload X d_Poly_becomeProduct_27 (by rfl) ?_
            first | refine r_iaddN X d_Poly_becomeProduct_29 ?_ | refine r_iadd X d_Poly_becomeProduct_29 ?_
            refine r_aload_n X d_Poly_becomeProduct_30 (by rfl) ?_
            refine r_get X lf_Poly_9 d_Poly_becomeProduct_31 (by assumption) (by rfl) ?_
            refine r_alen X d_Poly_becomeProduct_34 (by assumption) ?_
            refine r_icmp_geN X d_Poly_becomeProduct_35 (tgt := 81) (by decide) (by omega) (by omega) (fun hc => ?_) (fun hc => ?_)
            · refine r_iincN X 1 d_Poly_becomeProduct_81 (by rfl) (by decide) (by decide) ?_
              refine r_goto X d_Poly_becomeProduct_84 (tgt := 6) (by decide) ?_
              refine ih (i + 1) _ _ (by omega) ?_
              rw [hS3]
              congr 1
              funext x
              split
              · rfl
              · unfold prd
                rw [if_neg (by omega), if_neg (by omega)]
            · have b1 := hf.1 i
              have b2 := hg.1 j
              have b3 := cvr_lt f g i (i + j)
              have hm := mul_bd b1 b2
              have e6 : S3.1 (q + 1) (i + j) = cvr f g i (i + j) := by
                rw [hS3, arS_1, if_neg (by omega)]
                unfold prd
                rw [if_pos (by omega)]
              have e7 : S3.1 (qa + 1) i = f i := by rw [hS3, arS_1n (by omega), ha1]
              have e8 : S3.1 (qb + 1) j = g j := by rw [hS3, arS_1n (by omega), hb1]
              refine r_aload_n X d_Poly_becomeProduct_38 (by rfl) ?_
              refine r_get X lf_Poly_9 d_Poly_becomeProduct_39 (by assumption) (by rfl) ?_
              refine r_iload_n X d_Poly_becomeProduct_42 (by rfl) ?_
              refine r_iload X d_Poly_becomeProduct_43 (by rfl) ?_
              first | refine r_iaddN X d_Poly_becomeProduct_45 ?_ | refine r_iadd X d_Poly_becomeProduct_45 ?_
              refine r_aload_n X d_Poly_becomeProduct_46 (by rfl) ?_
              refine r_get X lf_Poly_9 d_Poly_becomeProduct_47 (by assumption) (by rfl) ?_
              refine r_iload_n X d_Poly_becomeProduct_50 (by rfl) ?_
              refine r_iload X d_Poly_becomeProduct_51 (by rfl) ?_
              first | refine r_iaddN X d_Poly_becomeProduct_53 ?_ | refine r_iadd X d_Poly_becomeProduct_53 ?_
              refine r_iald X d_Poly_becomeProduct_54 (by assumption) (by omega) (by omega) ?_
              refine r_aload_n X d_Poly_becomeProduct_55 (by rfl) ?_
              refine r_get X lf_Poly_9 d_Poly_becomeProduct_56 (by assumption) (by rfl) ?_
              refine r_iload_n X d_Poly_becomeProduct_59 (by rfl) ?_
              refine r_iald X d_Poly_becomeProduct_60 (by assumption) (by omega) (by omega) ?_
              refine r_aload_n X d_Poly_becomeProduct_61 (by rfl) ?_
              refine r_get X lf_Poly_9 d_Poly_becomeProduct_62 (by assumption) (by rfl) ?_
              refine r_iload X d_Poly_becomeProduct_65 (by rfl) ?_
              refine r_iald X d_Poly_becomeProduct_67 (by assumption) (by omega) (by omega) ?_
              rw [e6, e7, e8]
              first | refine r_imulN X d_Poly_becomeProduct_68 ?_ | refine r_imul X d_Poly_becomeProduct_68 ?_
              first | refine r_iaddN X d_Poly_becomeProduct_69 ?_ | refine r_iadd X d_Poly_becomeProduct_69 ?_
              refine r_sipush X (x := (nI 10007)) d_Poly_becomeProduct_70 (by decide) ?_
              refine r_iremN X d_Poly_becomeProduct_73 (by decide) (by decide) (by omega) ?_
              refine r_iast X d_Poly_becomeProduct_74 (by assumption) (by omega) (by omega) ?_
              refine r_iincN X 1 d_Poly_becomeProduct_75 (by rfl) (by decide) (by decide) ?_
              refine r_goto X d_Poly_becomeProduct_78 (tgt := 17) (by decide) ?_
              refine ihk (j + 1) _ (by omega) ?_
              rw [hS3, arS_arS, arS_1]
              congr 1
              have e9 : (cvr f g i (i + j) + f i * g j) % 10007 = prd n (i + 1) f g (i + j) := by
                unfold prd
                rw [if_pos (by omega)]
                show _ = if i ≤ i + j then (cvr f g i (i + j) + f i * g (i + j - i)) % 10007 else cvr f g i (i + j)
                rw [if_pos (by omega), show i + j - i = j by omega]
              rw [e9, up_lt (prd n (i + 1) f g) (prd n i f g) (i + j)]
              rfl
      refine r_iload_n X d_Poly_becomeProduct_6 (by rfl) ?_
      refine r_aload_n X d_Poly_becomeProduct_7 (by rfl) ?_
      refine r_get X lf_Poly_15 d_Poly_becomeProduct_8 (by assumption) (by rfl) ?_
      rw [e2]
      refine r_icmp_gtT X d_Poly_becomeProduct_11 (tgt := 87) (by decide) (by omega) (by omega) (fun hc => ?_) (fun hc => ?_)
      · omega
      · refine r_iconst X (x := (nI 0)) d_Poly_becomeProduct_14 (by decide) ?_
        refine r_istore X d_Poly_becomeProduct_15 (by decide) ?_
        refine inner (tp g nb) 0 _ (by omega) ?_
        rw [hS]
        congr 1
        funext x
        split
        · unfold prd
          split
          · show _ = if i ≤ x then (cvr f g i x + f i * g (x - i)) % 10007 else cvr f g i x
            rw [if_neg (by omega)]
          · rfl
        · rfl
  refine r_iconst X (x := (nI 0)) d_Poly_becomeProduct_4 (by decide) ?_
  refine r_istore_n X d_Poly_becomeProduct_5 (by decide) ?_
  refine loop (tp f na) 0 _ _ (by omega) ?_
  rw [show prd n 0 f g = S1.1 (q + 1) by
    rw [h1]
    funext k
    unfold prd
    split <;> rfl, arS_id]
def psn (n i : Nat) (c : Nat → Nat) : Nat → Nat := fun j => if i ≤ j then hn c 1 (n - j) j else c j
def tyl (n : Nat) : Nat → (Nat → Nat) → Nat → Nat
  | 0, f => f
  | k + 1, f => psn n k (tyl n k f)
theorem psn_ok {n i : Nat} {c : Nat → Nat} (h : okP n c) : okP n (psn n i c) := by
  refine ⟨fun j => ?_, fun j hj => ?_⟩
  · unfold psn
    split
    · exact hn_lt _ _ _ _
    · exact h.1 j
  · unfold psn
    split
    · rw [show n - j = 0 by omega]
      rfl
    · exact h.2 j hj
theorem tyl_ok {n : Nat} {f : Nat → Nat} (h : okP n f) : ∀ k, okP n (tyl n k f)
  | 0 => h
  | k + 1 => psn_ok (tyl_ok h k)
theorem hn1_top {c : Nat → Nat} {n t : Nat} (h : okP n c) (ht : t < n) (hz : ∀ j, t < j → c j = 0) : hn c 1 (n - t) t = c t := by
  rw [show n - t = (n - (t + 1)) + 1 by omega]
  show (hn c 1 (n - (t + 1)) (t + 1) * 1 + c t) % 10007 = c t
  rw [hn_0 (fun j hj => hz j (by omega))]
  have := h.1 t
  omega
theorem psn_top {n i t : Nat} {c : Nat → Nat} (h : okP n c) (ht : t < n) (hz : ∀ j, t < j → c j = 0) : ∀ j, t ≤ j → psn n i c j = c j := by
  intro j hj
  unfold psn
  split
  · by_cases e : j = t
    · rw [e]; exact hn1_top h ht hz
    · rw [hz j (by omega)]
      exact hn_0 (fun k hk => hz k (by omega))
  · rfl
theorem tyl_top {n t : Nat} {f : Nat → Nat} (h : okP n f) (ht : t < n) (hz : ∀ j, t < j → f j = 0) : ∀ k j, t ≤ j → tyl n k f j = f j := by
  intro k
  induction k with
  | zero => intro j _; rfl
  | succ k ih =>
    intro j hj
    show psn n k (tyl n k f) j = f j
    rw [psn_top (tyl_ok h k) ht (fun i hi => by rw [ih i (by omega)]; exact hz i hi) j hj]
    exact ih j hj
theorem tyl_tp {n : Nat} {f : Nat → Nat} (h : okP n f) (k : Nat) : tp (tyl n k f) n = tp f n := by
  have htp := tp_le f n
  cases ht : tp f n with
  | zero =>
    have hf0 : ∀ j, f j = 0 := fun j => h.tz (by omega)
    refine tp_eq (by omega) (fun i _ hi => ?_) (fun h => by omega)
    rw [tyl_top h (t := 0) (by omega) (fun j _ => hf0 j) k i (by omega)]
    exact hf0 i
  | succ t =>
    have hz : ∀ j, t < j → f j = 0 := fun j hj => h.tz (by omega)
    refine tp_eq (by omega) (fun i hi _ => ?_) (fun _ => ?_)
    · rw [tyl_top h (t := t) (by omega) hz k i (by omega)]
      exact hz i (by omega)
    · rw [show t + 1 - 1 = t by omega, tyl_top h (t := t) (by omega) hz k t (by omega)]
      have := tp_nz (f := f) (n := n) (by omega)
      rw [ht] at this
      exact this
theorem tyl_more {n t : Nat} {f : Nat → Nat} (h : okP n f) (ht : t < n) (hz : ∀ j, t < j → f j = 0) : ∀ m, tyl n (t + m) f = tyl n t f := by
  intro m
  induction m with
  | zero => rfl
  | succ m ih =>
    show psn n (t + m) (tyl n (t + m) f) = tyl n t f
    rw [ih]
    funext j
    by_cases hj : t ≤ j
    · exact psn_top (tyl_ok h t) ht (fun i hi => by rw [tyl_top h ht hz t i (by omega)]; exact hz i hi) j hj
    · unfold psn
      rw [if_neg (by omega)]
set_option maxHeartbeats 4000000 in
set_option maxRecDepth 100000 in
theorem c_moveOn {q n : Nat} {f : Nat → Nat} (hp : isP G q n) (hf : okP n f) (hs : pIs S q n f) : CT (mkE l D cI cT) G y_Poly_moveOn b_Poly_moveOn 3 none 0 [.ref q] S (Pv (fun S' => pIs S' q n (tyl n n f) ∧ Out S S' q 2)) := by
  obtain ⟨hq, ha, hn2, hnn⟩ := hp
  obtain ⟨hs1, hs2⟩ := hs
  have htp := tp_le f n
  refine mk_v (by decide) (eok l D cI cT) (by simp [Value.category]) (Nat.le_of_ble_eq_true rfl) (fun J X hR => ?_)
  show J S 0 [some (.ref q), none, none] []
  have fin : ∀ i v S1, tp f n ≤ i + 1 → i ≤ n → S1 = arS S (q + 1) (tyl n i f) → J S1 59 [some (.ref q), some (.int (nI i)), v] [] := by
    intro i v S1 hi hin hS
    have e3 : tyl n n f = tyl n i f := by
      by_cases h : i < n
      · rw [show n = i + (n - i) by omega]
        exact (tyl_more (by rw [← show n = i + (n - i) by omega]; exact hf) (by omega) (fun j hj => hf.tz (by omega)) (n - i))
      · rw [show i = n by omega]
    refine hR _ _ _ d_Poly_moveOn_59 ⟨rfl, ⟨?_, ?_⟩, ?_⟩
    · rw [hS, arS_1, e3]
    · rw [hS, tyl_tp hf]
      exact hs2
    · rw [hS]
      exact Out.ar (by omega) (by omega)
  have loop : ∀ m i v S1, i + m = tp f n → S1 = arS S (q + 1) (tyl n i f) → J S1 2 [some (.ref q), some (.int (nI i)), v] [] := by
    intro m
    induction m with
    | zero =>
      intro i v S1 hi hS
      have e2 : S1.2 q = tI (tp f n) := by rw [hS]; exact hs2
      refine r_iload_n X d_Poly_moveOn_2 (by rfl) ?_
      refine r_aload_n X d_Poly_moveOn_3 (by rfl) ?_
      refine r_get X lf_Poly_15 d_Poly_moveOn_4 (by assumption) (by rfl) ?_
      rw [e2]
      refine r_icmp_geT X d_Poly_moveOn_7 (tgt := 59) (by decide) (by omega) (by omega) (fun hc => ?_) (fun hc => ?_)
      · exact fin i v S1 hc (by omega) hS
      · omega
    | succ m ih =>
      intro i v S1 hi hS
      have e2 : S1.2 q = tI (tp f n) := by rw [hS]; exact hs2
      refine r_iload_n X d_Poly_moveOn_2 (by rfl) ?_
      refine r_aload_n X d_Poly_moveOn_3 (by rfl) ?_
      refine r_get X lf_Poly_15 d_Poly_moveOn_4 (by assumption) (by rfl) ?_
      rw [e2]
      refine r_icmp_geT X d_Poly_moveOn_7 (tgt := 59) (by decide) (by omega) (by omega) (fun hc => ?_) (fun hc => ?_)
      · exact fin i v S1 hc (by omega) hS
      · have hok := tyl_ok hf i
        have inner : ∀ d j S2, j = i + d → j < tp f n → S2 = arS S (q + 1) (fun x => if j ≤ x then psn n i (tyl n i f) x else tyl n i f x) → J S2 17 [some (.ref q), some (.int (nI i)), some (.int (tI j))] [] := by
          intro d
          induction d with
          | zero =>
            intro j S2 hj hjt hS2
            refine r_iload_n X d_Poly_moveOn_17 (by rfl) ?_
            refine r_iload_n X d_Poly_moveOn_18 (by rfl) ?_
            refine r_icmp_lt X d_Poly_moveOn_19 (tgt := 53) (by decide) (fun hc2 => ?_) (fun hc2 => ?_)
            · refine r_iincN X 1 d_Poly_moveOn_53 (by rfl) (by decide) (by decide) ?_
              refine r_goto X d_Poly_moveOn_56 (tgt := 2) (by decide) ?_
              refine ih (i + 1) _ _ (by omega) ?_
              rw [hS2]
              congr 1
              funext x
              show _ = psn n i (tyl n i f) x
              split
              · rfl
              · unfold psn
                rw [if_neg (by omega)]
            · refine absurd ?_ hc2
              rw [Int32.lt_iff_toInt_lt, tI_toInt (by omega), nI_toInt (by omega)]
              omega
          | succ d ihd =>
            intro j S2 hj hjt hS2
            refine r_iload_n X d_Poly_moveOn_17 (by rfl) ?_
            refine r_iload_n X d_Poly_moveOn_18 (by rfl) ?_
            refine r_icmp_lt X d_Poly_moveOn_19 (tgt := 53) (by decide) (fun hc2 => ?_) (fun hc2 => ?_)
            · rw [Int32.lt_iff_toInt_lt, tI_toInt (by omega), nI_toInt (by omega)] at hc2
              omega
            · have hj1 : j = (i + d) + 1 := by omega
              rw [hj1, tI_s]
              have e6 : S2.1 (q + 1) (i + d) = tyl n i f (i + d) := by rw [hS2, arS_1, if_neg (by omega)]
              have e7 : S2.1 (q + 1) (i + d + 1) = hn (tyl n i f) 1 (n - (i + d + 1)) (i + d + 1) := by
                rw [hS2, arS_1, if_pos (by omega)]
                unfold psn
                rw [if_pos (by omega)]
              have b1 := hok.1 (i + d)
              have b2 := hn_lt (tyl n i f) 1 (n - (i + d + 1)) (i + d + 1)
              refine r_aload_n X d_Poly_moveOn_22 (by rfl) ?_
              refine r_get X lf_Poly_9 d_Poly_moveOn_23 (by assumption) (by rfl) ?_
              refine r_iload_n X d_Poly_moveOn_26 (by rfl) ?_
              refine r_aload_n X d_Poly_moveOn_27 (by rfl) ?_
              refine r_get X lf_Poly_9 d_Poly_moveOn_28 (by assumption) (by rfl) ?_
              refine r_iload_n X d_Poly_moveOn_31 (by rfl) ?_
              refine r_iald X d_Poly_moveOn_32 (by assumption) (by omega) (by omega) ?_
              refine r_aload_n X d_Poly_moveOn_33 (by rfl) ?_
              refine r_get X lf_Poly_9 d_Poly_moveOn_34 (by assumption) (by rfl) ?_
              refine r_iload_n X d_Poly_moveOn_37 (by rfl) ?_
              refine r_iconst X (x := (nI 1)) d_Poly_moveOn_38 (by decide) ?_
              first | refine r_iaddN X d_Poly_moveOn_39 ?_ | refine r_iadd X d_Poly_moveOn_39 ?_
              refine r_iald X d_Poly_moveOn_40 (by assumption) (by omega) (by omega) ?_
              rw [e6, e7]
              first | refine r_iaddN X d_Poly_moveOn_41 ?_ | refine r_iadd X d_Poly_moveOn_41 ?_
              refine r_sipush X (x := (nI 10007)) d_Poly_moveOn_42 (by decide) ?_
              refine r_iremN X d_Poly_moveOn_45 (by decide) (by decide) (by omega) ?_
              refine r_iast X d_Poly_moveOn_46 (by assumption) (by omega) (by omega) ?_
              refine r_iincD X d_Poly_moveOn_47 (by rfl) (by decide) ?_
              refine r_goto X d_Poly_moveOn_50 (tgt := 17) (by decide) ?_
              refine ihd (i + d) _ rfl (by omega) ?_
              rw [hS2, arS_arS, arS_1, hj1]
              congr 1
              have e8 : (tyl n i f (i + d) + hn (tyl n i f) 1 (n - (i + d + 1)) (i + d + 1)) % 10007 = psn n i (tyl n i f) (i + d) := by
                unfold psn
                rw [if_pos (by omega), show n - (i + d) = (n - (i + d + 1)) + 1 by omega]
                show _ = (hn (tyl n i f) 1 (n - (i + d + 1)) (i + d + 1) * 1 + tyl n i f (i + d)) % 10007
                rw [Nat.mul_one, Nat.add_comm]
              rw [e8, up_ge (psn n i (tyl n i f)) (tyl n i f) (i + d)]
        refine r_aload_n X d_Poly_moveOn_10 (by rfl) ?_
        refine r_get X lf_Poly_15 d_Poly_moveOn_11 (by assumption) (by rfl) ?_
        rw [e2]
        rw [show tp f n = (tp f n - 1) + 1 by omega, tI_s]
        refine r_iconst X (x := nI 1) d_Poly_moveOn_14 (by decide) ?_
        refine r_isub X d_Poly_moveOn_15 ?_
        refine r_int (y := tI (tp f n - 1)) rfl ?_
        refine r_istore_n X d_Poly_moveOn_16 (by decide) ?_
        refine inner (tp f n - 1 - i) _ _ (by omega) (by omega) ?_
        rw [hS]
        congr 1
        funext x
        split
        · next h => exact (psn_top hok (t := tp f n - 1) (by omega) (fun y hy => by rw [tyl_top hf (t := tp f n - 1) (by omega) (fun z hz => hf.tz (by omega)) i y (by omega)]; exact hf.tz (by omega)) x h).symm
        · rfl
  refine r_iconst X (x := (nI 0)) d_Poly_moveOn_0 (by decide) ?_
  refine r_istore_n X d_Poly_moveOn_1 (by decide) ?_
  refine loop (tp f n) 0 _ _ (by omega) ?_
  show S = arS S (q + 1) f
  rw [← hs1, arS_id]
end P3
end
section
theorem d_Term_init_0 : decode b_Term_init 0 = .ok (.aload_n 0, 1) := by decide +kernel
theorem d_Term_init_1 : decode b_Term_init 1 = .ok (.invokespecial 3, 3) := by decide +kernel
theorem d_Term_init_4 : decode b_Term_init 4 = .ok (.aload_n 0, 1) := by decide +kernel
theorem d_Term_init_5 : decode b_Term_init 5 = .ok (.new 9, 3) := by decide +kernel
theorem d_Term_init_8 : decode b_Term_init 8 = .ok (.dup, 1) := by decide +kernel
theorem d_Term_init_9 : decode b_Term_init 9 = .ok (.iload_n 1, 1) := by decide +kernel
theorem d_Term_init_10 : decode b_Term_init 10 = .ok (.invokespecial 11, 3) := by decide +kernel
theorem d_Term_init_13 : decode b_Term_init 13 = .ok (.putfield 14, 3) := by decide +kernel
theorem d_Term_init_16 : decode b_Term_init 16 = .ok (.aload_n 0, 1) := by decide +kernel
theorem d_Term_init_17 : decode b_Term_init 17 = .ok (.bipush 9, 2) := by decide +kernel
theorem d_Term_init_19 : decode b_Term_init 19 = .ok (.newarray .int, 2) := by decide +kernel
theorem d_Term_init_21 : decode b_Term_init 21 = .ok (.putfield 20, 3) := by decide +kernel
theorem d_Term_init_24 : decode b_Term_init 24 = .ok (.aload_n 0, 1) := by decide +kernel
theorem d_Term_init_25 : decode b_Term_init 25 = .ok (.iconst 1, 1) := by decide +kernel
theorem d_Term_init_26 : decode b_Term_init 26 = .ok (.putfield 24, 3) := by decide +kernel
theorem d_Term_init_29 : decode b_Term_init 29 = .ok (.return_, 1) := by decide +kernel
theorem d_Term_clear_0 : decode b_Term_clear 0 = .ok (.aload_n 0, 1) := by decide +kernel
theorem d_Term_clear_1 : decode b_Term_clear 1 = .ok (.getfield 14, 3) := by decide +kernel
theorem d_Term_clear_4 : decode b_Term_clear 4 = .ok (.invokevirtual 28, 3) := by decide +kernel
theorem d_Term_clear_7 : decode b_Term_clear 7 = .ok (.aload_n 0, 1) := by decide +kernel
theorem d_Term_clear_8 : decode b_Term_clear 8 = .ok (.getfield 20, 3) := by decide +kernel
theorem d_Term_clear_11 : decode b_Term_clear 11 = .ok (.iconst 0, 1) := by decide +kernel
theorem d_Term_clear_12 : decode b_Term_clear 12 = .ok (.invokestatic 31, 3) := by decide +kernel
theorem d_Term_clear_15 : decode b_Term_clear 15 = .ok (.aload_n 0, 1) := by decide +kernel
theorem d_Term_clear_16 : decode b_Term_clear 16 = .ok (.iconst 1, 1) := by decide +kernel
theorem d_Term_clear_17 : decode b_Term_clear 17 = .ok (.putfield 24, 3) := by decide +kernel
theorem d_Term_clear_20 : decode b_Term_clear 20 = .ok (.return_, 1) := by decide +kernel
theorem d_Term_isOver_0 : decode b_Term_isOver 0 = .ok (.iconst 0, 1) := by decide +kernel
theorem d_Term_isOver_1 : decode b_Term_isOver 1 = .ok (.istore_n 1, 1) := by decide +kernel
theorem d_Term_isOver_2 : decode b_Term_isOver 2 = .ok (.iload_n 1, 1) := by decide +kernel
theorem d_Term_isOver_3 : decode b_Term_isOver 3 = .ok (.bipush 8, 2) := by decide +kernel
theorem d_Term_isOver_5 : decode b_Term_isOver 5 = .ok (.if_icmp .ge 21, 3) := by decide +kernel
theorem d_Term_isOver_8 : decode b_Term_isOver 8 = .ok (.aload_n 0, 1) := by decide +kernel
theorem d_Term_isOver_9 : decode b_Term_isOver 9 = .ok (.getfield 20, 3) := by decide +kernel
theorem d_Term_isOver_12 : decode b_Term_isOver 12 = .ok (.iload_n 1, 1) := by decide +kernel
theorem d_Term_isOver_13 : decode b_Term_isOver 13 = .ok (.iaload, 1) := by decide +kernel
theorem d_Term_isOver_14 : decode b_Term_isOver 14 = .ok (.iconst 3, 1) := by decide +kernel
theorem d_Term_isOver_15 : decode b_Term_isOver 15 = .ok (.if_icmp .le 5, 3) := by decide +kernel
theorem d_Term_isOver_18 : decode b_Term_isOver 18 = .ok (.iconst 1, 1) := by decide +kernel
theorem d_Term_isOver_19 : decode b_Term_isOver 19 = .ok (.ireturn, 1) := by decide +kernel
theorem d_Term_isOver_20 : decode b_Term_isOver 20 = .ok (.iinc 1 1, 3) := by decide +kernel
theorem d_Term_isOver_23 : decode b_Term_isOver 23 = .ok (.goto (-21), 3) := by decide +kernel
theorem d_Term_isOver_26 : decode b_Term_isOver 26 = .ok (.aload_n 0, 1) := by decide +kernel
theorem d_Term_isOver_27 : decode b_Term_isOver 27 = .ok (.getfield 14, 3) := by decide +kernel
theorem d_Term_isOver_30 : decode b_Term_isOver 30 = .ok (.getfield 47, 3) := by decide +kernel
theorem d_Term_isOver_33 : decode b_Term_isOver 33 = .ok (.bipush 31, 2) := by decide +kernel
theorem d_Term_isOver_35 : decode b_Term_isOver 35 = .ok (.if_icmp .gt 13, 3) := by decide +kernel
theorem d_Term_isOver_38 : decode b_Term_isOver 38 = .ok (.aload_n 0, 1) := by decide +kernel
theorem d_Term_isOver_39 : decode b_Term_isOver 39 = .ok (.getfield 20, 3) := by decide +kernel
theorem d_Term_isOver_42 : decode b_Term_isOver 42 = .ok (.bipush 8, 2) := by decide +kernel
theorem d_Term_isOver_44 : decode b_Term_isOver 44 = .ok (.iaload, 1) := by decide +kernel
theorem d_Term_isOver_45 : decode b_Term_isOver 45 = .ok (.ifCond .le 7, 3) := by decide +kernel
theorem d_Term_isOver_48 : decode b_Term_isOver 48 = .ok (.iconst 1, 1) := by decide +kernel
theorem d_Term_isOver_49 : decode b_Term_isOver 49 = .ok (.goto 4, 3) := by decide +kernel
theorem d_Term_isOver_52 : decode b_Term_isOver 52 = .ok (.iconst 0, 1) := by decide +kernel
theorem d_Term_isOver_53 : decode b_Term_isOver 53 = .ok (.ireturn, 1) := by decide +kernel
theorem d_Term_copyFrom_0 : decode b_Term_copyFrom 0 = .ok (.aload_n 0, 1) := by decide +kernel
theorem d_Term_copyFrom_1 : decode b_Term_copyFrom 1 = .ok (.getfield 14, 3) := by decide +kernel
theorem d_Term_copyFrom_4 : decode b_Term_copyFrom 4 = .ok (.aload_n 1, 1) := by decide +kernel
theorem d_Term_copyFrom_5 : decode b_Term_copyFrom 5 = .ok (.getfield 14, 3) := by decide +kernel
theorem d_Term_copyFrom_8 : decode b_Term_copyFrom 8 = .ok (.invokevirtual 37, 3) := by decide +kernel
theorem d_Term_copyFrom_11 : decode b_Term_copyFrom 11 = .ok (.aload_n 1, 1) := by decide +kernel
theorem d_Term_copyFrom_12 : decode b_Term_copyFrom 12 = .ok (.getfield 20, 3) := by decide +kernel
theorem d_Term_copyFrom_15 : decode b_Term_copyFrom 15 = .ok (.iconst 0, 1) := by decide +kernel
theorem d_Term_copyFrom_16 : decode b_Term_copyFrom 16 = .ok (.aload_n 0, 1) := by decide +kernel
theorem d_Term_copyFrom_17 : decode b_Term_copyFrom 17 = .ok (.getfield 20, 3) := by decide +kernel
theorem d_Term_copyFrom_20 : decode b_Term_copyFrom 20 = .ok (.iconst 0, 1) := by decide +kernel
theorem d_Term_copyFrom_21 : decode b_Term_copyFrom 21 = .ok (.aload_n 0, 1) := by decide +kernel
theorem d_Term_copyFrom_22 : decode b_Term_copyFrom 22 = .ok (.getfield 20, 3) := by decide +kernel
theorem d_Term_copyFrom_25 : decode b_Term_copyFrom 25 = .ok (.arraylength, 1) := by decide +kernel
theorem d_Term_copyFrom_26 : decode b_Term_copyFrom 26 = .ok (.invokestatic 41, 3) := by decide +kernel
theorem d_Term_copyFrom_29 : decode b_Term_copyFrom 29 = .ok (.aload_n 0, 1) := by decide +kernel
theorem d_Term_copyFrom_30 : decode b_Term_copyFrom 30 = .ok (.aload_n 1, 1) := by decide +kernel
theorem d_Term_copyFrom_31 : decode b_Term_copyFrom 31 = .ok (.getfield 24, 3) := by decide +kernel
theorem d_Term_copyFrom_34 : decode b_Term_copyFrom 34 = .ok (.putfield 24, 3) := by decide +kernel
theorem d_Term_copyFrom_37 : decode b_Term_copyFrom 37 = .ok (.return_, 1) := by decide +kernel
theorem d_Term_isZero_0 : decode b_Term_isZero 0 = .ok (.aload_n 0, 1) := by decide +kernel
theorem d_Term_isZero_1 : decode b_Term_isZero 1 = .ok (.getfield 14, 3) := by decide +kernel
theorem d_Term_isZero_4 : decode b_Term_isZero 4 = .ok (.getfield 47, 3) := by decide +kernel
theorem d_Term_isZero_7 : decode b_Term_isZero 7 = .ok (.ifCond .ge 7, 3) := by decide +kernel
theorem d_Term_isZero_10 : decode b_Term_isZero 10 = .ok (.iconst 1, 1) := by decide +kernel
theorem d_Term_isZero_11 : decode b_Term_isZero 11 = .ok (.goto 4, 3) := by decide +kernel
theorem d_Term_isZero_14 : decode b_Term_isZero 14 = .ok (.iconst 0, 1) := by decide +kernel
theorem d_Term_isZero_15 : decode b_Term_isZero 15 = .ok (.ireturn, 1) := by decide +kernel
theorem d_Term_normalise_0 : decode b_Term_normalise 0 = .ok (.aload_n 0, 1) := by decide +kernel
theorem d_Term_normalise_1 : decode b_Term_normalise 1 = .ok (.invokevirtual 75, 3) := by decide +kernel
theorem d_Term_normalise_4 : decode b_Term_normalise 4 = .ok (.ifCond .eq 8, 3) := by decide +kernel
theorem d_Term_normalise_7 : decode b_Term_normalise 7 = .ok (.aload_n 0, 1) := by decide +kernel
theorem d_Term_normalise_8 : decode b_Term_normalise 8 = .ok (.invokevirtual 79, 3) := by decide +kernel
theorem d_Term_normalise_11 : decode b_Term_normalise 11 = .ok (.return_, 1) := by decide +kernel
theorem d_Term_normalise_12 : decode b_Term_normalise 12 = .ok (.iconst 0, 1) := by decide +kernel
theorem d_Term_normalise_13 : decode b_Term_normalise 13 = .ok (.istore_n 1, 1) := by decide +kernel
theorem d_Term_normalise_14 : decode b_Term_normalise 14 = .ok (.iload_n 1, 1) := by decide +kernel
theorem d_Term_normalise_15 : decode b_Term_normalise 15 = .ok (.bipush 8, 2) := by decide +kernel
theorem d_Term_normalise_17 : decode b_Term_normalise 17 = .ok (.if_icmp .gt 57, 3) := by decide +kernel
theorem d_Term_normalise_20 : decode b_Term_normalise 20 = .ok (.iload_n 1, 1) := by decide +kernel
theorem d_Term_normalise_21 : decode b_Term_normalise 21 = .ok (.ineg, 1) := by decide +kernel
theorem d_Term_normalise_22 : decode b_Term_normalise 22 = .ok (.invokestatic 54, 3) := by decide +kernel
theorem d_Term_normalise_25 : decode b_Term_normalise 25 = .ok (.istore_n 2, 1) := by decide +kernel
theorem d_Term_normalise_26 : decode b_Term_normalise 26 = .ok (.aload_n 0, 1) := by decide +kernel
theorem d_Term_normalise_27 : decode b_Term_normalise 27 = .ok (.getfield 20, 3) := by decide +kernel
theorem d_Term_normalise_30 : decode b_Term_normalise 30 = .ok (.iload_n 1, 1) := by decide +kernel
theorem d_Term_normalise_31 : decode b_Term_normalise 31 = .ok (.iaload, 1) := by decide +kernel
theorem d_Term_normalise_32 : decode b_Term_normalise 32 = .ok (.ifCond .le 36, 3) := by decide +kernel
theorem d_Term_normalise_35 : decode b_Term_normalise 35 = .ok (.aload_n 0, 1) := by decide +kernel
theorem d_Term_normalise_36 : decode b_Term_normalise 36 = .ok (.getfield 14, 3) := by decide +kernel
theorem d_Term_normalise_39 : decode b_Term_normalise 39 = .ok (.iload_n 2, 1) := by decide +kernel
theorem d_Term_normalise_40 : decode b_Term_normalise 40 = .ok (.invokevirtual 72, 3) := by decide +kernel
theorem d_Term_normalise_43 : decode b_Term_normalise 43 = .ok (.ifCond .ne 25, 3) := by decide +kernel
theorem d_Term_normalise_46 : decode b_Term_normalise 46 = .ok (.aload_n 0, 1) := by decide +kernel
theorem d_Term_normalise_47 : decode b_Term_normalise 47 = .ok (.getfield 14, 3) := by decide +kernel
theorem d_Term_normalise_50 : decode b_Term_normalise 50 = .ok (.iload_n 1, 1) := by decide +kernel
theorem d_Term_normalise_51 : decode b_Term_normalise 51 = .ok (.invokevirtual 80, 3) := by decide +kernel
theorem d_Term_normalise_54 : decode b_Term_normalise 54 = .ok (.pop, 1) := by decide +kernel
theorem d_Term_normalise_55 : decode b_Term_normalise 55 = .ok (.aload_n 0, 1) := by decide +kernel
theorem d_Term_normalise_56 : decode b_Term_normalise 56 = .ok (.getfield 20, 3) := by decide +kernel
theorem d_Term_normalise_59 : decode b_Term_normalise 59 = .ok (.iload_n 1, 1) := by decide +kernel
theorem d_Term_normalise_60 : decode b_Term_normalise 60 = .ok (.dup2, 1) := by decide +kernel
theorem d_Term_normalise_61 : decode b_Term_normalise 61 = .ok (.iaload, 1) := by decide +kernel
theorem d_Term_normalise_62 : decode b_Term_normalise 62 = .ok (.iconst 1, 1) := by decide +kernel
theorem d_Term_normalise_63 : decode b_Term_normalise 63 = .ok (.isub, 1) := by decide +kernel
theorem d_Term_normalise_64 : decode b_Term_normalise 64 = .ok (.iastore, 1) := by decide +kernel
theorem d_Term_normalise_65 : decode b_Term_normalise 65 = .ok (.goto (-39), 3) := by decide +kernel
theorem d_Term_normalise_68 : decode b_Term_normalise 68 = .ok (.iinc 1 1, 3) := by decide +kernel
theorem d_Term_normalise_71 : decode b_Term_normalise 71 = .ok (.goto (-57), 3) := by decide +kernel
theorem d_Term_normalise_74 : decode b_Term_normalise 74 = .ok (.return_, 1) := by decide +kernel
theorem d_Term_becomeProduct_0 : decode b_Term_becomeProduct 0 = .ok (.aload_n 0, 1) := by decide +kernel
theorem d_Term_becomeProduct_1 : decode b_Term_becomeProduct 1 = .ok (.aload_n 1, 1) := by decide +kernel
theorem d_Term_becomeProduct_2 : decode b_Term_becomeProduct 2 = .ok (.getfield 24, 3) := by decide +kernel
theorem d_Term_becomeProduct_5 : decode b_Term_becomeProduct 5 = .ok (.aload_n 2, 1) := by decide +kernel
theorem d_Term_becomeProduct_6 : decode b_Term_becomeProduct 6 = .ok (.getfield 24, 3) := by decide +kernel
theorem d_Term_becomeProduct_9 : decode b_Term_becomeProduct 9 = .ok (.imul, 1) := by decide +kernel
theorem d_Term_becomeProduct_10 : decode b_Term_becomeProduct 10 = .ok (.sipush 10007, 3) := by decide +kernel
theorem d_Term_becomeProduct_13 : decode b_Term_becomeProduct 13 = .ok (.irem, 1) := by decide +kernel
theorem d_Term_becomeProduct_14 : decode b_Term_becomeProduct 14 = .ok (.putfield 24, 3) := by decide +kernel
theorem d_Term_becomeProduct_17 : decode b_Term_becomeProduct 17 = .ok (.aload_n 0, 1) := by decide +kernel
theorem d_Term_becomeProduct_18 : decode b_Term_becomeProduct 18 = .ok (.getfield 14, 3) := by decide +kernel
theorem d_Term_becomeProduct_21 : decode b_Term_becomeProduct 21 = .ok (.aload_n 1, 1) := by decide +kernel
theorem d_Term_becomeProduct_22 : decode b_Term_becomeProduct 22 = .ok (.getfield 14, 3) := by decide +kernel
theorem d_Term_becomeProduct_25 : decode b_Term_becomeProduct 25 = .ok (.aload_n 2, 1) := by decide +kernel
theorem d_Term_becomeProduct_26 : decode b_Term_becomeProduct 26 = .ok (.getfield 14, 3) := by decide +kernel
theorem d_Term_becomeProduct_29 : decode b_Term_becomeProduct 29 = .ok (.invokevirtual 83, 3) := by decide +kernel
theorem d_Term_becomeProduct_32 : decode b_Term_becomeProduct 32 = .ok (.iconst 0, 1) := by decide +kernel
theorem d_Term_becomeProduct_33 : decode b_Term_becomeProduct 33 = .ok (.istore_n 3, 1) := by decide +kernel
theorem d_Term_becomeProduct_34 : decode b_Term_becomeProduct 34 = .ok (.iload_n 3, 1) := by decide +kernel
theorem d_Term_becomeProduct_35 : decode b_Term_becomeProduct 35 = .ok (.bipush 8, 2) := by decide +kernel
theorem d_Term_becomeProduct_37 : decode b_Term_becomeProduct 37 = .ok (.if_icmp .gt 28, 3) := by decide +kernel
theorem d_Term_becomeProduct_40 : decode b_Term_becomeProduct 40 = .ok (.aload_n 0, 1) := by decide +kernel
theorem d_Term_becomeProduct_41 : decode b_Term_becomeProduct 41 = .ok (.getfield 20, 3) := by decide +kernel
theorem d_Term_becomeProduct_44 : decode b_Term_becomeProduct 44 = .ok (.iload_n 3, 1) := by decide +kernel
theorem d_Term_becomeProduct_45 : decode b_Term_becomeProduct 45 = .ok (.aload_n 1, 1) := by decide +kernel
theorem d_Term_becomeProduct_46 : decode b_Term_becomeProduct 46 = .ok (.getfield 20, 3) := by decide +kernel
theorem d_Term_becomeProduct_49 : decode b_Term_becomeProduct 49 = .ok (.iload_n 3, 1) := by decide +kernel
theorem d_Term_becomeProduct_50 : decode b_Term_becomeProduct 50 = .ok (.iaload, 1) := by decide +kernel
theorem d_Term_becomeProduct_51 : decode b_Term_becomeProduct 51 = .ok (.aload_n 2, 1) := by decide +kernel
theorem d_Term_becomeProduct_52 : decode b_Term_becomeProduct 52 = .ok (.getfield 20, 3) := by decide +kernel
theorem d_Term_becomeProduct_55 : decode b_Term_becomeProduct 55 = .ok (.iload_n 3, 1) := by decide +kernel
theorem d_Term_becomeProduct_56 : decode b_Term_becomeProduct 56 = .ok (.iaload, 1) := by decide +kernel
theorem d_Term_becomeProduct_57 : decode b_Term_becomeProduct 57 = .ok (.iadd, 1) := by decide +kernel
theorem d_Term_becomeProduct_58 : decode b_Term_becomeProduct 58 = .ok (.iastore, 1) := by decide +kernel
theorem d_Term_becomeProduct_59 : decode b_Term_becomeProduct 59 = .ok (.iinc 3 1, 3) := by decide +kernel
theorem d_Term_becomeProduct_62 : decode b_Term_becomeProduct 62 = .ok (.goto (-28), 3) := by decide +kernel
theorem d_Term_becomeProduct_65 : decode b_Term_becomeProduct 65 = .ok (.aload_n 0, 1) := by decide +kernel
theorem d_Term_becomeProduct_66 : decode b_Term_becomeProduct 66 = .ok (.invokevirtual 87, 3) := by decide +kernel
theorem d_Term_becomeProduct_69 : decode b_Term_becomeProduct 69 = .ok (.return_, 1) := by decide +kernel
theorem d_Term_becomeNext_0 : decode b_Term_becomeNext 0 = .ok (.aload_n 0, 1) := by decide +kernel
theorem d_Term_becomeNext_1 : decode b_Term_becomeNext 1 = .ok (.aload_n 1, 1) := by decide +kernel
theorem d_Term_becomeNext_2 : decode b_Term_becomeNext 2 = .ok (.getfield 24, 3) := by decide +kernel
theorem d_Term_becomeNext_5 : decode b_Term_becomeNext 5 = .ok (.putfield 24, 3) := by decide +kernel
theorem d_Term_becomeNext_8 : decode b_Term_becomeNext 8 = .ok (.aload_n 0, 1) := by decide +kernel
theorem d_Term_becomeNext_9 : decode b_Term_becomeNext 9 = .ok (.getfield 14, 3) := by decide +kernel
theorem d_Term_becomeNext_12 : decode b_Term_becomeNext 12 = .ok (.aload_n 1, 1) := by decide +kernel
theorem d_Term_becomeNext_13 : decode b_Term_becomeNext 13 = .ok (.getfield 14, 3) := by decide +kernel
theorem d_Term_becomeNext_16 : decode b_Term_becomeNext 16 = .ok (.invokevirtual 37, 3) := by decide +kernel
theorem d_Term_becomeNext_19 : decode b_Term_becomeNext 19 = .ok (.aload_n 0, 1) := by decide +kernel
theorem d_Term_becomeNext_20 : decode b_Term_becomeNext 20 = .ok (.getfield 14, 3) := by decide +kernel
theorem d_Term_becomeNext_23 : decode b_Term_becomeNext 23 = .ok (.invokevirtual 90, 3) := by decide +kernel
theorem d_Term_becomeNext_26 : decode b_Term_becomeNext 26 = .ok (.aload_n 0, 1) := by decide +kernel
theorem d_Term_becomeNext_27 : decode b_Term_becomeNext 27 = .ok (.getfield 14, 3) := by decide +kernel
theorem d_Term_becomeNext_30 : decode b_Term_becomeNext 30 = .ok (.aload_n 0, 1) := by decide +kernel
theorem d_Term_becomeNext_31 : decode b_Term_becomeNext 31 = .ok (.getfield 24, 3) := by decide +kernel
theorem d_Term_becomeNext_34 : decode b_Term_becomeNext 34 = .ok (.invokevirtual 93, 3) := by decide +kernel
theorem d_Term_becomeNext_37 : decode b_Term_becomeNext 37 = .ok (.aload_n 0, 1) := by decide +kernel
theorem d_Term_becomeNext_38 : decode b_Term_becomeNext 38 = .ok (.getfield 20, 3) := by decide +kernel
theorem d_Term_becomeNext_41 : decode b_Term_becomeNext 41 = .ok (.iconst 0, 1) := by decide +kernel
theorem d_Term_becomeNext_42 : decode b_Term_becomeNext 42 = .ok (.iconst 0, 1) := by decide +kernel
theorem d_Term_becomeNext_43 : decode b_Term_becomeNext 43 = .ok (.iastore, 1) := by decide +kernel
theorem d_Term_becomeNext_44 : decode b_Term_becomeNext 44 = .ok (.aload_n 1, 1) := by decide +kernel
theorem d_Term_becomeNext_45 : decode b_Term_becomeNext 45 = .ok (.getfield 20, 3) := by decide +kernel
theorem d_Term_becomeNext_48 : decode b_Term_becomeNext 48 = .ok (.iconst 0, 1) := by decide +kernel
theorem d_Term_becomeNext_49 : decode b_Term_becomeNext 49 = .ok (.aload_n 0, 1) := by decide +kernel
theorem d_Term_becomeNext_50 : decode b_Term_becomeNext 50 = .ok (.getfield 20, 3) := by decide +kernel
theorem d_Term_becomeNext_53 : decode b_Term_becomeNext 53 = .ok (.iconst 1, 1) := by decide +kernel
theorem d_Term_becomeNext_54 : decode b_Term_becomeNext 54 = .ok (.bipush 8, 2) := by decide +kernel
theorem d_Term_becomeNext_56 : decode b_Term_becomeNext 56 = .ok (.invokestatic 41, 3) := by decide +kernel
theorem d_Term_becomeNext_59 : decode b_Term_becomeNext 59 = .ok (.return_, 1) := by decide +kernel
theorem d_Term_matches_0 : decode b_Term_matches 0 = .ok (.iconst 0, 1) := by decide +kernel
theorem d_Term_matches_1 : decode b_Term_matches 1 = .ok (.istore_n 2, 1) := by decide +kernel
theorem d_Term_matches_2 : decode b_Term_matches 2 = .ok (.iload_n 2, 1) := by decide +kernel
theorem d_Term_matches_3 : decode b_Term_matches 3 = .ok (.bipush 8, 2) := by decide +kernel
theorem d_Term_matches_5 : decode b_Term_matches 5 = .ok (.if_icmp .gt 26, 3) := by decide +kernel
theorem d_Term_matches_8 : decode b_Term_matches 8 = .ok (.aload_n 0, 1) := by decide +kernel
theorem d_Term_matches_9 : decode b_Term_matches 9 = .ok (.getfield 20, 3) := by decide +kernel
theorem d_Term_matches_12 : decode b_Term_matches 12 = .ok (.iload_n 2, 1) := by decide +kernel
theorem d_Term_matches_13 : decode b_Term_matches 13 = .ok (.iaload, 1) := by decide +kernel
theorem d_Term_matches_14 : decode b_Term_matches 14 = .ok (.aload_n 1, 1) := by decide +kernel
theorem d_Term_matches_15 : decode b_Term_matches 15 = .ok (.getfield 20, 3) := by decide +kernel
theorem d_Term_matches_18 : decode b_Term_matches 18 = .ok (.iload_n 2, 1) := by decide +kernel
theorem d_Term_matches_19 : decode b_Term_matches 19 = .ok (.iaload, 1) := by decide +kernel
theorem d_Term_matches_20 : decode b_Term_matches 20 = .ok (.if_icmp .eq 5, 3) := by decide +kernel
theorem d_Term_matches_23 : decode b_Term_matches 23 = .ok (.iconst 0, 1) := by decide +kernel
theorem d_Term_matches_24 : decode b_Term_matches 24 = .ok (.ireturn, 1) := by decide +kernel
theorem d_Term_matches_25 : decode b_Term_matches 25 = .ok (.iinc 2 1, 3) := by decide +kernel
theorem d_Term_matches_28 : decode b_Term_matches 28 = .ok (.goto (-26), 3) := by decide +kernel
theorem d_Term_matches_31 : decode b_Term_matches 31 = .ok (.aload_n 0, 1) := by decide +kernel
theorem d_Term_matches_32 : decode b_Term_matches 32 = .ok (.getfield 24, 3) := by decide +kernel
theorem d_Term_matches_35 : decode b_Term_matches 35 = .ok (.aload_n 1, 1) := by decide +kernel
theorem d_Term_matches_36 : decode b_Term_matches 36 = .ok (.getfield 24, 3) := by decide +kernel
theorem d_Term_matches_39 : decode b_Term_matches 39 = .ok (.if_icmp .ne 21, 3) := by decide +kernel
theorem d_Term_matches_42 : decode b_Term_matches 42 = .ok (.aload_n 0, 1) := by decide +kernel
theorem d_Term_matches_43 : decode b_Term_matches 43 = .ok (.getfield 14, 3) := by decide +kernel
theorem d_Term_matches_46 : decode b_Term_matches 46 = .ok (.aload_n 1, 1) := by decide +kernel
theorem d_Term_matches_47 : decode b_Term_matches 47 = .ok (.getfield 14, 3) := by decide +kernel
theorem d_Term_matches_50 : decode b_Term_matches 50 = .ok (.invokevirtual 50, 3) := by decide +kernel
theorem d_Term_matches_53 : decode b_Term_matches 53 = .ok (.ifCond .eq 7, 3) := by decide +kernel
theorem d_Term_matches_56 : decode b_Term_matches 56 = .ok (.iconst 1, 1) := by decide +kernel
theorem d_Term_matches_57 : decode b_Term_matches 57 = .ok (.goto 4, 3) := by decide +kernel
theorem d_Term_matches_60 : decode b_Term_matches 60 = .ok (.iconst 0, 1) := by decide +kernel
theorem d_Term_matches_61 : decode b_Term_matches 61 = .ok (.ireturn, 1) := by decide +kernel
theorem d_Term_isDefinedAt_0 : decode b_Term_isDefinedAt 0 = .ok (.iconst 0, 1) := by decide +kernel
theorem d_Term_isDefinedAt_1 : decode b_Term_isDefinedAt 1 = .ok (.istore_n 2, 1) := by decide +kernel
theorem d_Term_isDefinedAt_2 : decode b_Term_isDefinedAt 2 = .ok (.iload_n 2, 1) := by decide +kernel
theorem d_Term_isDefinedAt_3 : decode b_Term_isDefinedAt 3 = .ok (.bipush 8, 2) := by decide +kernel
theorem d_Term_isDefinedAt_5 : decode b_Term_isDefinedAt 5 = .ok (.if_icmp .ge 26, 3) := by decide +kernel
theorem d_Term_isDefinedAt_8 : decode b_Term_isDefinedAt 8 = .ok (.aload_n 0, 1) := by decide +kernel
theorem d_Term_isDefinedAt_9 : decode b_Term_isDefinedAt 9 = .ok (.getfield 20, 3) := by decide +kernel
theorem d_Term_isDefinedAt_12 : decode b_Term_isDefinedAt 12 = .ok (.iload_n 2, 1) := by decide +kernel
theorem d_Term_isDefinedAt_13 : decode b_Term_isDefinedAt 13 = .ok (.iaload, 1) := by decide +kernel
theorem d_Term_isDefinedAt_14 : decode b_Term_isDefinedAt 14 = .ok (.ifCond .le 11, 3) := by decide +kernel
theorem d_Term_isDefinedAt_17 : decode b_Term_isDefinedAt 17 = .ok (.iload_n 1, 1) := by decide +kernel
theorem d_Term_isDefinedAt_18 : decode b_Term_isDefinedAt 18 = .ok (.iload_n 2, 1) := by decide +kernel
theorem d_Term_isDefinedAt_19 : decode b_Term_isDefinedAt 19 = .ok (.iadd, 1) := by decide +kernel
theorem d_Term_isDefinedAt_20 : decode b_Term_isDefinedAt 20 = .ok (.ifCond .ne 5, 3) := by decide +kernel
theorem d_Term_isDefinedAt_23 : decode b_Term_isDefinedAt 23 = .ok (.iconst 0, 1) := by decide +kernel
theorem d_Term_isDefinedAt_24 : decode b_Term_isDefinedAt 24 = .ok (.ireturn, 1) := by decide +kernel
theorem d_Term_isDefinedAt_25 : decode b_Term_isDefinedAt 25 = .ok (.iinc 2 1, 3) := by decide +kernel
theorem d_Term_isDefinedAt_28 : decode b_Term_isDefinedAt 28 = .ok (.goto (-26), 3) := by decide +kernel
theorem d_Term_isDefinedAt_31 : decode b_Term_isDefinedAt 31 = .ok (.iconst 1, 1) := by decide +kernel
theorem d_Term_isDefinedAt_32 : decode b_Term_isDefinedAt 32 = .ok (.ireturn, 1) := by decide +kernel
theorem d_Term_at_0 : decode b_Term_at 0 = .ok (.iconst 1, 1) := by decide +kernel
theorem d_Term_at_1 : decode b_Term_at 1 = .ok (.istore_n 2, 1) := by decide +kernel
theorem d_Term_at_2 : decode b_Term_at 2 = .ok (.iconst 0, 1) := by decide +kernel
theorem d_Term_at_3 : decode b_Term_at 3 = .ok (.istore_n 3, 1) := by decide +kernel
theorem d_Term_at_4 : decode b_Term_at 4 = .ok (.iload_n 3, 1) := by decide +kernel
theorem d_Term_at_5 : decode b_Term_at 5 = .ok (.bipush 8, 2) := by decide +kernel
theorem d_Term_at_7 : decode b_Term_at 7 = .ok (.if_icmp .ge 35, 3) := by decide +kernel
theorem d_Term_at_10 : decode b_Term_at 10 = .ok (.iload_n 1, 1) := by decide +kernel
theorem d_Term_at_11 : decode b_Term_at 11 = .ok (.iload_n 3, 1) := by decide +kernel
theorem d_Term_at_12 : decode b_Term_at 12 = .ok (.iadd, 1) := by decide +kernel
theorem d_Term_at_13 : decode b_Term_at 13 = .ok (.invokestatic 54, 3) := by decide +kernel
theorem d_Term_at_16 : decode b_Term_at 16 = .ok (.istore 4, 2) := by decide +kernel
theorem d_Term_at_18 : decode b_Term_at 18 = .ok (.iload_n 2, 1) := by decide +kernel
theorem d_Term_at_19 : decode b_Term_at 19 = .ok (.iload 4, 2) := by decide +kernel
theorem d_Term_at_21 : decode b_Term_at 21 = .ok (.aload_n 0, 1) := by decide +kernel
theorem d_Term_at_22 : decode b_Term_at 22 = .ok (.getfield 20, 3) := by decide +kernel
theorem d_Term_at_25 : decode b_Term_at 25 = .ok (.iload_n 3, 1) := by decide +kernel
theorem d_Term_at_26 : decode b_Term_at 26 = .ok (.iaload, 1) := by decide +kernel
theorem d_Term_at_27 : decode b_Term_at 27 = .ok (.invokestatic 60, 3) := by decide +kernel
theorem d_Term_at_30 : decode b_Term_at 30 = .ok (.imul, 1) := by decide +kernel
theorem d_Term_at_31 : decode b_Term_at 31 = .ok (.sipush 10007, 3) := by decide +kernel
theorem d_Term_at_34 : decode b_Term_at 34 = .ok (.irem, 1) := by decide +kernel
theorem d_Term_at_35 : decode b_Term_at 35 = .ok (.istore_n 2, 1) := by decide +kernel
theorem d_Term_at_36 : decode b_Term_at 36 = .ok (.iinc 3 1, 3) := by decide +kernel
theorem d_Term_at_39 : decode b_Term_at 39 = .ok (.goto (-35), 3) := by decide +kernel
theorem d_Term_at_42 : decode b_Term_at 42 = .ok (.iload_n 1, 1) := by decide +kernel
theorem d_Term_at_43 : decode b_Term_at 43 = .ok (.ifCond .ge 13, 3) := by decide +kernel
theorem d_Term_at_46 : decode b_Term_at 46 = .ok (.aload_n 0, 1) := by decide +kernel
theorem d_Term_at_47 : decode b_Term_at 47 = .ok (.getfield 24, 3) := by decide +kernel
theorem d_Term_at_50 : decode b_Term_at 50 = .ok (.invokestatic 64, 3) := by decide +kernel
theorem d_Term_at_53 : decode b_Term_at 53 = .ok (.goto 7, 3) := by decide +kernel
theorem d_Term_at_56 : decode b_Term_at 56 = .ok (.aload_n 0, 1) := by decide +kernel
theorem d_Term_at_57 : decode b_Term_at 57 = .ok (.getfield 24, 3) := by decide +kernel
theorem d_Term_at_60 : decode b_Term_at 60 = .ok (.istore_n 3, 1) := by decide +kernel
theorem d_Term_at_61 : decode b_Term_at 61 = .ok (.iload_n 3, 1) := by decide +kernel
theorem d_Term_at_62 : decode b_Term_at 62 = .ok (.iload_n 1, 1) := by decide +kernel
theorem d_Term_at_63 : decode b_Term_at 63 = .ok (.invokestatic 67, 3) := by decide +kernel
theorem d_Term_at_66 : decode b_Term_at 66 = .ok (.invokestatic 60, 3) := by decide +kernel
theorem d_Term_at_69 : decode b_Term_at 69 = .ok (.aload_n 0, 1) := by decide +kernel
theorem d_Term_at_70 : decode b_Term_at 70 = .ok (.getfield 14, 3) := by decide +kernel
theorem d_Term_at_73 : decode b_Term_at 73 = .ok (.iload_n 1, 1) := by decide +kernel
theorem d_Term_at_74 : decode b_Term_at 74 = .ok (.invokestatic 54, 3) := by decide +kernel
theorem d_Term_at_77 : decode b_Term_at 77 = .ok (.invokevirtual 72, 3) := by decide +kernel
theorem d_Term_at_80 : decode b_Term_at 80 = .ok (.imul, 1) := by decide +kernel
theorem d_Term_at_81 : decode b_Term_at 81 = .ok (.sipush 10007, 3) := by decide +kernel
theorem d_Term_at_84 : decode b_Term_at 84 = .ok (.irem, 1) := by decide +kernel
theorem d_Term_at_85 : decode b_Term_at 85 = .ok (.istore 4, 2) := by decide +kernel
theorem d_Term_at_87 : decode b_Term_at 87 = .ok (.iload 4, 2) := by decide +kernel
theorem d_Term_at_89 : decode b_Term_at 89 = .ok (.iload_n 2, 1) := by decide +kernel
theorem d_Term_at_90 : decode b_Term_at 90 = .ok (.invokestatic 64, 3) := by decide +kernel
theorem d_Term_at_93 : decode b_Term_at 93 = .ok (.imul, 1) := by decide +kernel
theorem d_Term_at_94 : decode b_Term_at 94 = .ok (.sipush 10007, 3) := by decide +kernel
theorem d_Term_at_97 : decode b_Term_at 97 = .ok (.irem, 1) := by decide +kernel
theorem d_Term_at_98 : decode b_Term_at 98 = .ok (.ireturn, 1) := by decide +kernel
end
section
section T1
variable {l : Launch} {D : va_G} {cI cT : ClassId} {G : Gm} {S : Sg}
def tIs (S : Sg) (t n : Nat) (N e : Nat → Nat) (z : Nat) : Prop := pIs S (t + 1) n N ∧ S.1 (t + 3) = e ∧ S.2 t = nI z
theorem tIs.out {S S1 : Sg} {t n a w z : Nat} {N e : Nat → Nat} (h : tIs S t n N e z) (ho : Out S S1 a w) (hd : t + 4 ≤ a ∨ a + w ≤ t) : tIs S1 t n N e z :=
  ⟨h.1.out ho (by omega), (ho.a1 (by omega)).trans h.2.1, (ho.a2 (by omega)).trans h.2.2⟩
def okE (e : Nat → Nat) : Prop := (∀ i, e i < 100) ∧ ∀ i, 9 ≤ i → e i = 0
theorem r_if_geT {E : Ev} {own : String} {cc : ByteArray} {nL k : Nat} {J : Jt} {pc : Nat} {L : List (Option Value)} {st : List Value} (X : Cx E G own cc nL k J) {t : Nat} {off : Int} {tgt : Nat} (d : decode cc pc = .ok (.ifCond .ge off, 3)) (ht : (pc : Int) + off = (tgt : Int)) (hb : t < 2 ^ 30) (kt : 0 < t → J S tgt L st) (kf : t = 0 → J S (pc + 3) L st) : J S pc L (.int (tI t) :: st) := by
  have e1 := tI_toInt hb
  refine r_if_ge X d ht (fun h => kt ?_) (fun h => kf ?_)
  · rw [Int32.le_iff_toInt_le, e1, Int32.toInt_zero] at h; omega
  · rw [Int32.le_iff_toInt_le, e1, Int32.toInt_zero] at h; omega
theorem cpy_0 {e f : Nat → Nat} {n : Nat} {i : Nat} (hi : i < n) : va_cpy e f 0 0 n i = e i := by
  unfold va_cpy
  rw [if_pos (by omega)]
  congr 1
  omega
set_option maxHeartbeats 4000000 in
set_option maxRecDepth 100000 in
theorem c_tclear {t n : Nat} (hp : isT G t n) : CT (mkE l D cI cT) G y_Term_clear b_Term_clear 1 none 2 [.ref t] S (Pv (fun S' => tIs S' t n (fun _ => 0) (fun _ => 0) 1 ∧ Out S S' t 4)) := by
  obtain ⟨hT, hpp, he⟩ := hp
  have hpp0 := hpp
  obtain ⟨hq, ha, hn2, hnn⟩ := hpp
  refine mk_v (by decide) (eok l D cI cT) (by simp [Value.category]) (Nat.le_of_ble_eq_true rfl) (fun J X hR => ?_)
  show J S 0 [some (.ref t)] []
  refine r_aload_n X d_Term_clear_0 (by rfl) ?_
  refine r_get X lf_Term_14 d_Term_clear_1 (by assumption) (by rfl) ?_
  refine r_cVv X lv_Term_28 (c_clear hpp0) (by assumption) (by decide) rfl (Nat.le_of_ble_eq_true rfl) d_Term_clear_4 rfl (fun S1 h1 => ?_)
  obtain ⟨h1, ho⟩ := h1
  refine r_aload_n X d_Term_clear_7 (by rfl) ?_
  refine r_get X lf_Term_20 d_Term_clear_8 (by assumption) (by rfl) ?_
  refine r_iconst X (x := (nI 0)) d_Term_clear_11 (by decide) ?_
  refine r_cSv X ls_Term_31 (c_fill (v := 0) he (by omega)) (by decide) rfl (Nat.le_of_ble_eq_true rfl) d_Term_clear_12 rfl (fun S2 h2 => ?_)
  have ho2 : Out S1 S2 (t + 3) 1 := by rw [h2]; exact Out.ar (by omega) (by omega)
  refine r_aload_n X d_Term_clear_15 (by rfl) ?_
  refine r_iconst X (x := (nI 1)) d_Term_clear_16 (by decide) ?_
  refine r_put X lp_Term_24 d_Term_clear_17 (by assumption) (by rfl) (Nat.le_of_ble_eq_true rfl) ?_
  refine hR _ _ _ d_Term_clear_20 ⟨rfl, ⟨?_, ?_, ?_⟩, ?_⟩
  · exact (h1.out ho2 (by omega)).out (Out.fd (a := t) (q := t) (w := 1) (by omega) (by omega)) (by omega)
  · rw [fdS_1, h2, arS_1]
    funext i
    split <;> rfl
  · rw [fdS_2]
  · exact ((ho.wide (by omega) (by omega)).trans (ho2.wide (by omega) (by omega))).trans (Out.fd (by omega) (by omega))
set_option maxHeartbeats 4000000 in
set_option maxRecDepth 100000 in
theorem c_tcopy {t n u m z : Nat} {N e : Nat → Nat} (hp : isT G t n) (hu : isT G u m) (hne : t ≠ u) (hN : okP m N) (hE : okE e) (hs : tIs S u m N e z) : CT (mkE l D cI cT) G y_Term_copyFrom b_Term_copyFrom 2 none 2 [.ref t, .ref u] S (Pv (fun S' => tIs S' t n (cut n N) e z ∧ Out S S' t 4)) := by
  have sep := hp.sep hu hne
  obtain ⟨hT, hpp, he⟩ := hp
  have hpp0 := hpp
  obtain ⟨hq, ha, hn2, hnn⟩ := hpp
  obtain ⟨hU, hpu, hue⟩ := hu
  have hpu0 := hpu
  obtain ⟨hqu, hau, hnu2, hnnu⟩ := hpu
  refine mk_v (by decide) (eok l D cI cT) (by simp [Value.category]) (Nat.le_of_ble_eq_true rfl) (fun J X hR => ?_)
  show J S 0 [some (.ref t), some (.ref u)] []
  refine r_aload_n X d_Term_copyFrom_0 (by rfl) ?_
  refine r_get X lf_Term_14 d_Term_copyFrom_1 (by assumption) (by rfl) ?_
  refine r_aload_n X d_Term_copyFrom_4 (by rfl) ?_
  refine r_get X lf_Term_14 d_Term_copyFrom_5 (by assumption) (by rfl) ?_
  refine r_cVv X lv_Term_37 (c_copyFrom hpp0 hpu0 (by omega) hN hs.1.1) (by assumption) (by decide) rfl (Nat.le_of_ble_eq_true rfl) d_Term_copyFrom_8 rfl (fun S1 h1 => ?_)
  obtain ⟨h1, ho⟩ := h1
  have hs1 := hs.out ho (by omega)
  refine r_aload_n X d_Term_copyFrom_11 (by rfl) ?_
  refine r_get X lf_Term_20 d_Term_copyFrom_12 (by assumption) (by rfl) ?_
  refine r_iconst X (x := (nI 0)) d_Term_copyFrom_15 (by decide) ?_
  refine r_aload_n X d_Term_copyFrom_16 (by rfl) ?_
  refine r_get X lf_Term_20 d_Term_copyFrom_17 (by assumption) (by rfl) ?_
  refine r_iconst X (x := (nI 0)) d_Term_copyFrom_20 (by decide) ?_
  refine r_aload_n X d_Term_copyFrom_21 (by rfl) ?_
  refine r_get X lf_Term_20 d_Term_copyFrom_22 (by assumption) (by rfl) ?_
  refine r_alen X d_Term_copyFrom_25 (by assumption) ?_
  refine r_copy X ly_Term_41 (by decide) (by assumption) (by assumption) (by omega) (by omega) (by omega) (by omega) rfl d_Term_copyFrom_26 ?_
  refine r_trunc X (f := e) he (fun i hi => ?_) ?_
  · rw [arS_1, cpy_0 hi, hs1.2.1]
  · rw [arS_arS]
    have ho2 : Out S1 (arS S1 (t + 3) e) (t + 3) 1 := Out.ar (by omega) (by omega)
    have hs2 := hs1.out ho2 (by omega)
    have h2 := h1.out ho2 (by omega)
    have e4 : (arS S1 (t + 3) e).1 (t + 3) = e := arS_1 _ _ _
    revert ho2 hs2 h2 e4
    generalize arS S1 (t + 3) e = S2
    intro ho2 hs2 h2 e4
    refine r_aload_n X d_Term_copyFrom_29 (by rfl) ?_
    refine r_aload_n X d_Term_copyFrom_30 (by rfl) ?_
    refine r_get X lf_Term_24 d_Term_copyFrom_31 (by assumption) (by rfl) ?_
    rw [hs2.2.2]
    refine r_put X lp_Term_24 d_Term_copyFrom_34 (by assumption) (by rfl) (Nat.le_of_ble_eq_true rfl) ?_
    refine hR _ _ _ d_Term_copyFrom_37 ⟨rfl, ⟨?_, ?_, ?_⟩, ?_⟩
    · exact h2.out (Out.fd (a := t) (q := t) (w := 1) (by omega) (by omega)) (by omega)
    · rw [fdS_1, e4]
    · rw [fdS_2]
    · exact ((ho.wide (by omega) (by omega)).trans (ho2.wide (by omega) (by omega))).trans (Out.fd (by omega) (by omega))
set_option maxHeartbeats 4000000 in
set_option maxRecDepth 100000 in
theorem c_isZero {t n z : Nat} {N e : Nat → Nat} (hp : isT G t n) (hs : tIs S t n N e z) : CT (mkE l D cI cT) G y_Term_isZero b_Term_isZero 1 (some .boolean) 0 [.ref t] S (Pi (fun S' r => S' = S ∧ ((r = nI 1 ∧ tp N n = 0) ∨ (r = nI 0 ∧ 0 < tp N n)))) := by
  obtain ⟨hT, ⟨hq, ha, hn2, hnn⟩, he⟩ := hp
  have htp := tp_le N n
  refine mk_i (by decide) (eok l D cI cT) (by simp [Value.category]) (Nat.le_of_ble_eq_true rfl) (fun J X hR => ?_)
  show J S 0 [some (.ref t)] []
  refine r_aload_n X d_Term_isZero_0 (by rfl) ?_
  refine r_get X lf_Term_14 d_Term_isZero_1 (by assumption) (by rfl) ?_
  refine r_get X lf_Term_47 d_Term_isZero_4 (by assumption) (by rfl) ?_
  rw [hs.1.2]
  refine r_if_geT X d_Term_isZero_7 (tgt := 14) (by decide) (by omega) (fun hc => ?_) (fun hc => ?_)
  · refine r_iconst X (x := (nI 0)) d_Term_isZero_14 (by decide) ?_
    exact hR _ _ _ _ d_Term_isZero_15 (by decide) ⟨_, rfl, rfl, Or.inr ⟨rfl, hc⟩⟩
  · refine r_iconst X (x := (nI 1)) d_Term_isZero_10 (by decide) ?_
    refine r_goto X d_Term_isZero_11 (tgt := 15) (by decide) ?_
    exact hR _ _ _ _ d_Term_isZero_15 (by decide) ⟨_, rfl, rfl, Or.inl ⟨rfl, hc⟩⟩
def ovr (n : Nat) (N e : Nat → Nat) : Prop := (∃ b, b < 8 ∧ 3 < e b) ∨ 32 < tp N n ∨ 0 < e 8
set_option maxHeartbeats 4000000 in
set_option maxRecDepth 100000 in
theorem c_isOver {t n z : Nat} {N e : Nat → Nat} (hp : isT G t n) (hE : okE e) (hs : tIs S t n N e z) : CT (mkE l D cI cT) G y_Term_isOver b_Term_isOver 2 (some .boolean) 0 [.ref t] S (Pi (fun S' r => S' = S ∧ ((r = nI 1 ∧ ovr n N e) ∨ (r = nI 0 ∧ ¬ ovr n N e)))) := by
  obtain ⟨hT, ⟨hq, ha, hn2, hnn⟩, he⟩ := hp
  have htp := tp_le N n
  refine mk_i (by decide) (eok l D cI cT) (by simp [Value.category]) (Nat.le_of_ble_eq_true rfl) (fun J X hR => ?_)
  show J S 0 [some (.ref t), none] []
  have loop : ∀ m b, b + m = 8 → (∀ i, i < b → ¬ 3 < e i) → J S 2 [some (.ref t), some (.int (nI b))] [] := by
    intro m
    induction m with
    | zero =>
      intro b hb hno
      have hno8 : ¬ ∃ b, b < 8 ∧ 3 < e b := fun ⟨i, hi, h⟩ => hno i (by omega) h
      have h8 := hE.1 8
      refine r_iload_n X d_Term_isOver_2 (by rfl) ?_
      refine r_bipush X (x := (nI 8)) d_Term_isOver_3 (by decide) ?_
      refine r_icmp_geN X d_Term_isOver_5 (tgt := 26) (by decide) (by omega) (by omega) (fun hc => ?_) (fun hc => ?_)
      · refine r_aload_n X d_Term_isOver_26 (by rfl) ?_
        refine r_get X lf_Term_14 d_Term_isOver_27 (by assumption) (by rfl) ?_
        refine r_get X lf_Term_47 d_Term_isOver_30 (by assumption) (by rfl) ?_
        rw [hs.1.2]
        refine r_bipush X (x := (nI 31)) d_Term_isOver_33 (by decide) ?_
        refine r_icmp_gt X d_Term_isOver_35 (tgt := 48) (by decide) (fun hc2 => ?_) (fun hc2 => ?_)
        · rw [Int32.lt_iff_toInt_lt, tI_toInt (by omega), nI_toInt (by omega)] at hc2
          refine r_iconst X (x := (nI 1)) d_Term_isOver_48 (by decide) ?_
          refine r_goto X d_Term_isOver_49 (tgt := 53) (by decide) ?_
          exact hR _ _ _ _ d_Term_isOver_53 (by decide) ⟨_, rfl, rfl, Or.inl ⟨rfl, Or.inr (Or.inl (by omega))⟩⟩
        · rw [Int32.lt_iff_toInt_lt, tI_toInt (by omega), nI_toInt (by omega)] at hc2
          refine r_aload_n X d_Term_isOver_38 (by rfl) ?_
          refine r_get X lf_Term_20 d_Term_isOver_39 (by assumption) (by rfl) ?_
          refine r_bipush X (x := (nI 8)) d_Term_isOver_42 (by decide) ?_
          refine r_iald X d_Term_isOver_44 (by assumption) (by omega) (by omega) ?_
          rw [hs.2.1]
          refine r_if_leN X d_Term_isOver_45 (tgt := 52) (by decide) (by omega) (fun hc => ?_) (fun hc => ?_)
          · refine r_iconst X (x := (nI 0)) d_Term_isOver_52 (by decide) ?_
            refine hR _ _ _ _ d_Term_isOver_53 (by decide) ⟨_, rfl, rfl, Or.inr ⟨rfl, ?_⟩⟩
            rintro (h | h | h)
            · exact hno8 h
            · omega
            · omega
          · refine r_iconst X (x := (nI 1)) d_Term_isOver_48 (by decide) ?_
            refine r_goto X d_Term_isOver_49 (tgt := 53) (by decide) ?_
            exact hR _ _ _ _ d_Term_isOver_53 (by decide) ⟨_, rfl, rfl, Or.inl ⟨rfl, Or.inr (Or.inr hc)⟩⟩
      · omega
    | succ m ih =>
      intro b hb hno
      have h8 := hE.1 b
      refine r_iload_n X d_Term_isOver_2 (by rfl) ?_
      refine r_bipush X (x := (nI 8)) d_Term_isOver_3 (by decide) ?_
      refine r_icmp_geN X d_Term_isOver_5 (tgt := 26) (by decide) (by omega) (by omega) (fun hc => ?_) (fun hc => ?_)
      · omega
      · refine r_aload_n X d_Term_isOver_8 (by rfl) ?_
        refine r_get X lf_Term_20 d_Term_isOver_9 (by assumption) (by rfl) ?_
        refine r_iload_n X d_Term_isOver_12 (by rfl) ?_
        refine r_iald X d_Term_isOver_13 (by assumption) (by omega) (by omega) ?_
        rw [hs.2.1]
        refine r_iconst X (x := (nI 3)) d_Term_isOver_14 (by decide) ?_
        refine r_icmp_leN X d_Term_isOver_15 (tgt := 20) (by decide) (by omega) (by omega) (fun hc => ?_) (fun hc => ?_)
        · refine r_iincN X 1 d_Term_isOver_20 (by rfl) (by decide) (by decide) ?_
          refine r_goto X d_Term_isOver_23 (tgt := 2) (by decide) ?_
          refine ih (b + 1) (by omega) (fun i hi => ?_)
          by_cases h : i = b
          · rw [h]; omega
          · exact hno i (by omega)
        · refine r_iconst X (x := (nI 1)) d_Term_isOver_18 (by decide) ?_
          exact hR _ _ _ _ d_Term_isOver_19 (by decide) ⟨_, rfl, rfl, Or.inl ⟨rfl, Or.inl ⟨b, by omega, hc⟩⟩⟩
  refine r_iconst X (x := (nI 0)) d_Term_isOver_0 (by decide) ?_
  refine r_istore_n X d_Term_isOver_1 (by decide) ?_
  exact loop 8 0 (by omega) (fun i hi => by omega)
set_option maxHeartbeats 4000000 in
set_option maxRecDepth 100000 in
theorem c_tmatches {t n u m z y : Nat} {N e M f : Nat → Nat} (hp : isT G t n) (hu : isT G u m) (hN : okP n N) (hM : okP m M) (hE : okE e) (hF : okE f) (hz : z < 10007) (hy : y < 10007) (hs : tIs S t n N e z) (hs' : tIs S u m M f y) : CT (mkE l D cI cT) G y_Term_matches b_Term_matches 3 (some .boolean) 1 [.ref t, .ref u] S (Pi (fun S' r => S' = S ∧ ((r = nI 1 ∧ N = M ∧ e = f ∧ z = y) ∨ (r = nI 0 ∧ ¬ (N = M ∧ e = f ∧ z = y))))) := by
  obtain ⟨hT, hpp, he⟩ := hp
  have hpp0 := hpp
  obtain ⟨hq, ha, hn2, hnn⟩ := hpp
  obtain ⟨hU, hpu, hue⟩ := hu
  have hpu0 := hpu
  obtain ⟨hqu, hau, hnu2, hnnu⟩ := hpu
  refine mk_i (by decide) (eok l D cI cT) (by simp [Value.category]) (Nat.le_of_ble_eq_true rfl) (fun J X hR => ?_)
  show J S 0 [some (.ref t), some (.ref u), none] []
  have loop : ∀ k b, b + k = 9 → (∀ i, i < b → e i = f i) → J S 2 [some (.ref t), some (.ref u), some (.int (nI b))] [] := by
    intro k
    induction k with
    | zero =>
      intro b hb heq
      have hef : e = f := by
        funext i
        by_cases h : i < 9
        · exact heq i (by omega)
        · rw [hE.2 i (by omega), hF.2 i (by omega)]
      refine r_iload_n X d_Term_matches_2 (by rfl) ?_
      refine r_bipush X (x := (nI 8)) d_Term_matches_3 (by decide) ?_
      refine r_icmp_gtN X d_Term_matches_5 (tgt := 31) (by decide) (by omega) (by omega) (fun hc => ?_) (fun hc => ?_)
      · refine r_aload_n X d_Term_matches_31 (by rfl) ?_
        refine r_get X lf_Term_24 d_Term_matches_32 (by assumption) (by rfl) ?_
        refine r_aload_n X d_Term_matches_35 (by rfl) ?_
        refine r_get X lf_Term_24 d_Term_matches_36 (by assumption) (by rfl) ?_
        rw [hs.2.2, hs'.2.2]
        refine r_icmp_neN X d_Term_matches_39 (tgt := 60) (by decide) (by omega) (by omega) (fun hc => ?_) (fun hc => ?_)
        · refine r_iconst X (x := (nI 0)) d_Term_matches_60 (by decide) ?_
          exact hR _ _ _ _ d_Term_matches_61 (by decide) ⟨_, rfl, rfl, Or.inr ⟨rfl, fun h => hc h.2.2⟩⟩
        · have hzy := hc
          refine r_aload_n X d_Term_matches_42 (by rfl) ?_
          refine r_get X lf_Term_14 d_Term_matches_43 (by assumption) (by rfl) ?_
          refine r_aload_n X d_Term_matches_46 (by rfl) ?_
          refine r_get X lf_Term_14 d_Term_matches_47 (by assumption) (by rfl) ?_
          refine r_cVi X lv_Term_50 (c_pmatches hpp0 hpu0 hN hM hs.1 hs'.1) (by assumption) (by decide) rfl (Nat.le_of_ble_eq_true rfl) d_Term_matches_50 rfl (fun S1 r h1 => ?_)
          obtain ⟨rfl, ⟨rfl, h1⟩ | ⟨rfl, h1⟩⟩ := h1
          · refine r_if_eqN X d_Term_matches_53 (tgt := 60) (by decide) (by omega) (fun hc => ?_) (fun hc => ?_)
            · omega
            · refine r_iconst X (x := (nI 1)) d_Term_matches_56 (by decide) ?_
              refine r_goto X d_Term_matches_57 (tgt := 61) (by decide) ?_
              exact hR _ _ _ _ d_Term_matches_61 (by decide) ⟨_, rfl, rfl, Or.inl ⟨rfl, h1, hef, hzy⟩⟩
          · refine r_if_eqN X d_Term_matches_53 (tgt := 60) (by decide) (by omega) (fun hc => ?_) (fun hc => ?_)
            · refine r_iconst X (x := (nI 0)) d_Term_matches_60 (by decide) ?_
              exact hR _ _ _ _ d_Term_matches_61 (by decide) ⟨_, rfl, rfl, Or.inr ⟨rfl, fun h => h1 h.1⟩⟩
            · omega
      · omega
    | succ k ih =>
      intro b hb heq
      have h8 := hE.1 b
      have h9 := hF.1 b
      refine r_iload_n X d_Term_matches_2 (by rfl) ?_
      refine r_bipush X (x := (nI 8)) d_Term_matches_3 (by decide) ?_
      refine r_icmp_gtN X d_Term_matches_5 (tgt := 31) (by decide) (by omega) (by omega) (fun hc => ?_) (fun hc => ?_)
      · omega
      · refine r_aload_n X d_Term_matches_8 (by rfl) ?_
        refine r_get X lf_Term_20 d_Term_matches_9 (by assumption) (by rfl) ?_
        refine r_iload_n X d_Term_matches_12 (by rfl) ?_
        refine r_iald X d_Term_matches_13 (by assumption) (by omega) (by omega) ?_
        refine r_aload_n X d_Term_matches_14 (by rfl) ?_
        refine r_get X lf_Term_20 d_Term_matches_15 (by assumption) (by rfl) ?_
        refine r_iload_n X d_Term_matches_18 (by rfl) ?_
        refine r_iald X d_Term_matches_19 (by assumption) (by omega) (by omega) ?_
        rw [hs.2.1, hs'.2.1]
        refine r_icmp_eqN X d_Term_matches_20 (tgt := 25) (by decide) (by omega) (by omega) (fun hc => ?_) (fun hc => ?_)
        · refine r_iincN X 1 d_Term_matches_25 (by rfl) (by decide) (by decide) ?_
          refine r_goto X d_Term_matches_28 (tgt := 2) (by decide) ?_
          refine ih (b + 1) (by omega) (fun i hi => ?_)
          by_cases h : i = b
          · rw [h]; exact hc
          · exact heq i (by omega)
        · refine r_iconst X (x := (nI 0)) d_Term_matches_23 (by decide) ?_
          exact hR _ _ _ _ d_Term_matches_24 (by decide) ⟨_, rfl, rfl, Or.inr ⟨rfl, fun h => hc (by rw [h.2.1])⟩⟩
  refine r_iconst X (x := (nI 0)) d_Term_matches_0 (by decide) ?_
  refine r_istore_n X d_Term_matches_1 (by decide) ?_
  exact loop 9 0 (by omega) (fun i hi => by omega)
def undf (e : Nat → Nat) (x : Int32) : Prop := ∃ b, b < 8 ∧ 0 < e b ∧ x + nI b = 0
set_option maxHeartbeats 4000000 in
set_option maxRecDepth 100000 in
theorem c_isDefinedAt {t n z : Nat} {N e : Nat → Nat} {x : Int32} (hp : isT G t n) (hE : okE e) (hs : tIs S t n N e z) : CT (mkE l D cI cT) G y_Term_isDefinedAt b_Term_isDefinedAt 3 (some .boolean) 0 [.ref t, .int x] S (Pi (fun S' r => S' = S ∧ ((r = nI 0 ∧ undf e x) ∨ (r = nI 1 ∧ ¬ undf e x)))) := by
  obtain ⟨hT, ⟨hq, ha, hn2, hnn⟩, he⟩ := hp
  refine mk_i (by decide) (eok l D cI cT) (by simp [Value.category]) (Nat.le_of_ble_eq_true rfl) (fun J X hR => ?_)
  show J S 0 [some (.ref t), some (.int x), none] []
  have loop : ∀ m b, b + m = 8 → (∀ i, i < b → ¬ (0 < e i ∧ x + nI i = 0)) → J S 2 [some (.ref t), some (.int x), some (.int (nI b))] [] := by
    intro m
    induction m with
    | zero =>
      intro b hb hno
      refine r_iload_n X d_Term_isDefinedAt_2 (by rfl) ?_
      refine r_bipush X (x := (nI 8)) d_Term_isDefinedAt_3 (by decide) ?_
      refine r_icmp_geN X d_Term_isDefinedAt_5 (tgt := 31) (by decide) (by omega) (by omega) (fun hc => ?_) (fun hc => ?_)
      · refine r_iconst X (x := (nI 1)) d_Term_isDefinedAt_31 (by decide) ?_
        exact hR _ _ _ _ d_Term_isDefinedAt_32 (by decide) ⟨_, rfl, rfl, Or.inr ⟨rfl, fun ⟨i, hi, h⟩ => hno i (by omega) h⟩⟩
      · omega
    | succ m ih =>
      intro b hb hno
      have h8 := hE.1 b
      have next : ¬ (0 < e b ∧ x + nI b = 0) → J S 25 [some (.ref t), some (.int x), some (.int (nI b))] [] := by
        intro h
        refine r_iincN X 1 d_Term_isDefinedAt_25 (by rfl) (by decide) (by decide) ?_
        refine r_goto X d_Term_isDefinedAt_28 (tgt := 2) (by decide) ?_
        refine ih (b + 1) (by omega) (fun i hi => ?_)
        by_cases h2 : i = b
        · rw [h2]; exact h
        · exact hno i (by omega)
      refine r_iload_n X d_Term_isDefinedAt_2 (by rfl) ?_
      refine r_bipush X (x := (nI 8)) d_Term_isDefinedAt_3 (by decide) ?_
      refine r_icmp_geN X d_Term_isDefinedAt_5 (tgt := 31) (by decide) (by omega) (by omega) (fun hc => ?_) (fun hc => ?_)
      · omega
      · refine r_aload_n X d_Term_isDefinedAt_8 (by rfl) ?_
        refine r_get X lf_Term_20 d_Term_isDefinedAt_9 (by assumption) (by rfl) ?_
        refine r_iload_n X d_Term_isDefinedAt_12 (by rfl) ?_
        refine r_iald X d_Term_isDefinedAt_13 (by assumption) (by omega) (by omega) ?_
        rw [hs.2.1]
        refine r_if_leN X d_Term_isDefinedAt_14 (tgt := 25) (by decide) (by omega) (fun hc => ?_) (fun hc => ?_)
        · exact next (fun h => by omega)
        · refine r_iload_n X d_Term_isDefinedAt_17 (by rfl) ?_
          refine r_iload_n X d_Term_isDefinedAt_18 (by rfl) ?_
          refine r_iadd X d_Term_isDefinedAt_19 ?_
          refine r_if_ne X d_Term_isDefinedAt_20 (tgt := 25) (by decide) (fun hc2 => ?_) (fun hc2 => ?_)
          · exact next (fun h => hc2 h.2)
          · refine r_iconst X (x := (nI 0)) d_Term_isDefinedAt_23 (by decide) ?_
            exact hR _ _ _ _ d_Term_isDefinedAt_24 (by decide) ⟨_, rfl, rfl, Or.inl ⟨rfl, b, by omega, hc, hc2⟩⟩
  refine r_iconst X (x := (nI 0)) d_Term_isDefinedAt_0 (by decide) ?_
  refine r_istore_n X d_Term_isDefinedAt_1 (by decide) ?_
  exact loop 8 0 (by omega) (fun i hi => by omega)
end T1
end
section
section T2
variable {l : Launch} {D : va_G} {cI cT : ClassId} {G : Gm} {S : Sg}
def blw (e : Nat → Nat) (x : Int32) : Nat → Nat
  | 0 => 1
  | b + 1 => blw e x b * pw (em (x + nI b)) (e b) % 10007
theorem blw_lt (e : Nat → Nat) (x : Int32) (b : Nat) : blw e x b < 10007 := by
  cases b with
  | zero => exact (by decide : 1 < 10007)
  | succ b => exact Nat.mod_lt _ (by decide)
theorem pwl (b n : Nat) : pw b n < 10007 := pw_lt (b := 0) (n := 0) 32 1 b n (by decide)
def tvl (n : Nat) (N e : Nat → Nat) (z : Nat) (x : Int32) : Nat := (pw (if x < 0 then iv z else z) x.toInt.natAbs * hn N (em x) n 0 % 10007) * iv (blw e x 8) % 10007
theorem abs_nI {x : Int32} (h1 : -1000 ≤ x.toInt) (h2 : x.toInt ≤ 1000) : (if 0 ≤ x then x else 0 - x) = nI x.toInt.natAbs := by
  apply i32_ext
  rw [nI_toInt (by omega)]
  split
  · next h => rw [Int32.le_iff_toInt_le, Int32.toInt_zero] at h; omega
  · next h =>
    rw [Int32.le_iff_toInt_le, Int32.toInt_zero] at h
    rw [Int32.toInt_sub, Int32.toInt_zero]
    unfold Int.bmod
    simp only
    split <;> omega
set_option maxHeartbeats 4000000 in
set_option maxRecDepth 100000 in
theorem c_tat {t n z : Nat} {N e : Nat → Nat} {x : Int32} (hp : isT G t n) (hN : okP n N) (hE : okE e) (hz : z < 10007) (hx1 : -1000 ≤ x.toInt) (hx2 : x.toInt ≤ 1000) (hs : tIs S t n N e z) : CT (mkE l D cI cT) G y_Term_at b_Term_at 5 (some .int) 2 [.ref t, .int x] S (Pi (fun S' r => S' = S ∧ r = nI (tvl n N e z x))) := by
  obtain ⟨hT, hpp, he⟩ := hp
  have hpp0 := hpp
  obtain ⟨hq, ha, hn2, hnn⟩ := hpp
  refine mk_i (by decide) (eok l D cI cT) (by simp [Value.category]) (Nat.le_of_ble_eq_true rfl) (fun J X hR => ?_)
  show J S 0 [some (.ref t), some (.int x), none, none, none] []
  have fin : ∀ b v, b = (if x < 0 then iv z else z) → J S 60 [some (.ref t), some (.int x), some (.int (nI (blw e x 8))), some (.int (nI 8)), v] [.int (nI b)] := by
    intro b v hb
    have hb7 : b < 10007 := by rw [hb]; split; exact iv_lt z; exact hz
    have hem := em_lt x
    have h2 := hn_lt N (em x) n 0
    have h3 := pwl b x.toInt.natAbs
    have h4 := blw_lt e x 8
    refine r_istore_n X d_Term_at_60 (by decide) ?_
    refine r_iload_n X d_Term_at_61 (by rfl) ?_
    refine r_iload_n X d_Term_at_62 (by rfl) ?_
    refine r_mabs X lm_Term_67 (by decide) (Nat.le_of_ble_eq_true rfl) d_Term_at_63 ?_
    refine r_int (abs_nI hx1 hx2) ?_
    refine r_cSi X ls_Term_60 (c_raise (n := x.toInt.natAbs) hb7 (by omega)) (by decide) rfl (Nat.le_of_ble_eq_true rfl) d_Term_at_66 rfl (fun S1 r h1 => ?_)
    obtain ⟨rfl, rfl⟩ := h1
    refine r_aload_n X d_Term_at_69 (by rfl) ?_
    refine r_get X lf_Term_14 d_Term_at_70 (by assumption) (by rfl) ?_
    refine r_iload_n X d_Term_at_73 (by rfl) ?_
    refine r_cSi X ls_Term_54 c_of (by decide) rfl (Nat.le_of_ble_eq_true rfl) d_Term_at_74 rfl (fun S1 r h1 => ?_)
    obtain ⟨rfl, rfl⟩ := h1
    refine r_cVi X lv_Term_72 (c_at hpp0 hN hs.1 hem) (by assumption) (by decide) rfl (Nat.le_of_ble_eq_true rfl) d_Term_at_77 rfl (fun S1 r h1 => ?_)
    obtain ⟨rfl, rfl⟩ := h1
    have hm := mul_bd h3 h2
    first | refine r_imulN X d_Term_at_80 ?_ | refine r_imul X d_Term_at_80 ?_
    refine r_sipush X (x := (nI 10007)) d_Term_at_81 (by decide) ?_
    refine r_iremN X d_Term_at_84 (by decide) (by decide) (by omega) ?_
    refine r_istore X d_Term_at_85 (by decide) ?_
    refine r_iload X d_Term_at_87 (by rfl) ?_
    refine r_iload_n X d_Term_at_89 (by rfl) ?_
    refine r_cSi X ls_Term_64 (c_invert h4) (by decide) rfl (Nat.le_of_ble_eq_true rfl) d_Term_at_90 rfl (fun S1 r h1 => ?_)
    obtain ⟨rfl, rfl⟩ := h1
    have hm2 := mul_bd (Nat.mod_lt (pw b x.toInt.natAbs * hn N (em x) n 0) (by decide : 0 < 10007)) (iv_lt (blw e x 8))
    first | refine r_imulN X d_Term_at_93 ?_ | refine r_imul X d_Term_at_93 ?_
    refine r_sipush X (x := (nI 10007)) d_Term_at_94 (by decide) ?_
    refine r_iremN X d_Term_at_97 (by decide) (by decide) (by omega) ?_
    refine hR _ _ _ _ d_Term_at_98 rfl ⟨_, rfl, rfl, ?_⟩
    unfold tvl
    rw [← hb]
  have loop : ∀ m b v, b + m = 8 → J S 4 [some (.ref t), some (.int x), some (.int (nI (blw e x b))), some (.int (nI b)), v] [] := by
    intro m
    induction m with
    | zero =>
      intro b v hb
      have hb8 : b = 8 := by omega
      subst hb8
      refine r_iload_n X d_Term_at_4 (by rfl) ?_
      refine r_bipush X (x := (nI 8)) d_Term_at_5 (by decide) ?_
      refine r_icmp_geN X d_Term_at_7 (tgt := 42) (by decide) (by omega) (by omega) (fun hc => ?_) (fun hc => ?_)
      · refine r_iload_n X d_Term_at_42 (by rfl) ?_
        refine r_if_ge X d_Term_at_43 (tgt := 56) (by decide) (fun hc2 => ?_) (fun hc2 => ?_)
        · refine r_aload_n X d_Term_at_56 (by rfl) ?_
          refine r_get X lf_Term_24 d_Term_at_57 (by assumption) (by rfl) ?_
          rw [hs.2.2]
          exact fin z _ (by rw [if_neg (Int32.not_lt.mpr hc2)])
        · refine r_aload_n X d_Term_at_46 (by rfl) ?_
          refine r_get X lf_Term_24 d_Term_at_47 (by assumption) (by rfl) ?_
          rw [hs.2.2]
          refine r_cSi X ls_Term_64 (c_invert hz) (by decide) rfl (Nat.le_of_ble_eq_true rfl) d_Term_at_50 rfl (fun S1 r h1 => ?_)
          obtain ⟨rfl, rfl⟩ := h1
          refine r_goto X d_Term_at_53 (tgt := 60) (by decide) ?_
          exact fin (iv z) _ (by rw [if_pos (Int32.not_le.mp hc2)])
      · omega
    | succ m ih =>
      intro b v hb
      have h8 := hE.1 b
      have hem := em_lt (x + nI b)
      have h4 := blw_lt e x b
      have h3 := pwl (em (x + nI b)) (e b)
      have hm := mul_bd h4 h3
      refine r_iload_n X d_Term_at_4 (by rfl) ?_
      refine r_bipush X (x := (nI 8)) d_Term_at_5 (by decide) ?_
      refine r_icmp_geN X d_Term_at_7 (tgt := 42) (by decide) (by omega) (by omega) (fun hc => ?_) (fun hc => ?_)
      · omega
      · refine r_iload_n X d_Term_at_10 (by rfl) ?_
        refine r_iload_n X d_Term_at_11 (by rfl) ?_
        refine r_iadd X d_Term_at_12 ?_
        refine r_cSi X ls_Term_54 c_of (by decide) rfl (Nat.le_of_ble_eq_true rfl) d_Term_at_13 rfl (fun S1 r h1 => ?_)
        obtain ⟨rfl, rfl⟩ := h1
        refine r_istore X d_Term_at_16 (by decide) ?_
        refine r_iload_n X d_Term_at_18 (by rfl) ?_
        refine r_iload X d_Term_at_19 (by rfl) ?_
        refine r_aload_n X d_Term_at_21 (by rfl) ?_
        refine r_get X lf_Term_20 d_Term_at_22 (by assumption) (by rfl) ?_
        refine r_iload_n X d_Term_at_25 (by rfl) ?_
        refine r_iald X d_Term_at_26 (by assumption) (by omega) (by omega) ?_
        rw [hs.2.1]
        refine r_cSi X ls_Term_60 (c_raise (n := e b) hem (by omega)) (by decide) rfl (Nat.le_of_ble_eq_true rfl) d_Term_at_27 rfl (fun S1 r h1 => ?_)
        obtain ⟨rfl, rfl⟩ := h1
        first | refine r_imulN X d_Term_at_30 ?_ | refine r_imul X d_Term_at_30 ?_
        refine r_sipush X (x := (nI 10007)) d_Term_at_31 (by decide) ?_
        refine r_iremN X d_Term_at_34 (by decide) (by decide) (by omega) ?_
        refine r_istore_n X d_Term_at_35 (by decide) ?_
        refine r_iincN X 1 d_Term_at_36 (by rfl) (by decide) (by decide) ?_
        refine r_goto X d_Term_at_39 (tgt := 4) (by decide) ?_
        exact ih (b + 1) _ (by omega)
  refine r_iconst X (x := (nI 1)) d_Term_at_0 (by decide) ?_
  refine r_istore_n X d_Term_at_1 (by decide) ?_
  refine r_iconst X (x := (nI 0)) d_Term_at_2 (by decide) ?_
  refine r_istore_n X d_Term_at_3 (by decide) ?_
  exact loop 8 0 _ (by omega)
def strip (n r : Nat) : Nat → (Nat → Nat) → (Nat → Nat) × Nat
  | 0, N => (N, 0)
  | k + 1, N => if hn N r n 0 = 0 then strip n r k (dq n r N) else (N, k + 1)
def rt (b : Nat) : Nat := (10007 - b) % 10007
def nrl (n : Nat) : Nat → Nat → (Nat → Nat) → (Nat → Nat) → (Nat → Nat) × (Nat → Nat)
  | 0, _, N, e => (N, e)
  | m + 1, b, N, e => nrl n m (b + 1) (strip n (rt b) (e b) N).1 (va_up e b (strip n (rt b) (e b) N).2)
theorem strip_ok {n r : Nat} : ∀ (k : Nat) {N : Nat → Nat}, okP n N → okP n (strip n r k N).1 ∧ (strip n r k N).2 ≤ k := by
  intro k
  induction k with
  | zero => intro N h; exact ⟨h, Nat.le_refl _⟩
  | succ k ih =>
    intro N h
    unfold strip
    split
    · have := ih (dq_ok n r N)
      exact ⟨this.1, by omega⟩
    · exact ⟨h, Nat.le_refl _⟩
theorem okE.up {e : Nat → Nat} {b k : Nat} (h : okE e) (hb : b < 9) (hk : k < 100) : okE (va_up e b k) := by
  refine ⟨fun i => ?_, fun i hi => ?_⟩
  · unfold va_up
    split
    · exact hk
    · exact h.1 i
  · rw [va_up_n (by omega)]
    exact h.2 i hi
theorem nrl_ok {n : Nat} : ∀ (m b : Nat) {N e : Nat → Nat}, b + m = 9 → okP n N → okE e → okP n (nrl n m b N e).1 ∧ okE (nrl n m b N e).2 := by
  intro m
  induction m with
  | zero => intro b N e _ h1 h2; exact ⟨h1, h2⟩
  | succ m ih =>
    intro b N e hb h1 h2
    have := strip_ok (r := rt b) (e b) h1
    have h3 := h2.1 b
    exact ih (b + 1) (by omega) this.1 (h2.up (by omega) (by omega))
def nrN (n : Nat) (N e : Nat → Nat) : Nat → Nat := if tp N n = 0 then fun _ => 0 else (nrl n 9 0 N e).1
def nrE (n : Nat) (N e : Nat → Nat) : Nat → Nat := if tp N n = 0 then fun _ => 0 else (nrl n 9 0 N e).2
def nrZ (n : Nat) (N : Nat → Nat) (z : Nat) : Nat := if tp N n = 0 then 1 else z
theorem nrN_ok {n : Nat} {N e : Nat → Nat} (h1 : okP n N) (h2 : okE e) : okP n (nrN n N e) ∧ okE (nrE n N e) := by
  unfold nrN nrE
  split
  · exact ⟨⟨fun _ => (by decide : 0 < 10007), fun _ _ => rfl⟩, fun _ => (by decide : 0 < 100), fun _ _ => rfl⟩
  · exact nrl_ok 9 0 rfl h1 h2
set_option maxHeartbeats 4000000 in
set_option maxRecDepth 100000 in
theorem c_normalise {t n z : Nat} {N e : Nat → Nat} (hp : isT G t n) (hN : okP n N) (hE : okE e) (hs : tIs S t n N e z) : CT (mkE l D cI cT) G y_Term_normalise b_Term_normalise 3 none 3 [.ref t] S (Pv (fun S' => tIs S' t n (nrN n N e) (nrE n N e) (nrZ n N z) ∧ Out S S' t 4)) := by
  have hp0 := hp
  obtain ⟨hT, hpp, he⟩ := hp
  have hpp0 := hpp
  obtain ⟨hq, ha, hn2, hnn⟩ := hpp
  refine mk_v (by decide) (eok l D cI cT) (by simp [Value.category]) (Nat.le_of_ble_eq_true rfl) (fun J X hR => ?_)
  show J S 0 [some (.ref t), none, none] []
  have outer : 0 < tp N n → ∀ m b M f S1 v, b + m = 9 → okP n M → okE f → tIs S1 t n M f z → Out S S1 t 4 → nrl n m b M f = nrl n 9 0 N e → J S1 14 [some (.ref t), some (.int (nI b)), v] [] := by
    intro hpos m
    induction m with
    | zero =>
      intro b M f S1 v hb hM hF hs1 ho heq
      refine r_iload_n X d_Term_normalise_14 (by rfl) ?_
      refine r_bipush X (x := (nI 8)) d_Term_normalise_15 (by decide) ?_
      refine r_icmp_gtN X d_Term_normalise_17 (tgt := 74) (by decide) (by omega) (by omega) (fun hc => ?_) (fun hc => ?_)
      · refine hR _ _ _ d_Term_normalise_74 ⟨rfl, ?_, ho⟩
        unfold nrN nrE nrZ
        rw [if_neg (by omega), if_neg (by omega), if_neg (by omega), ← heq]
        exact hs1
      · omega
    | succ m ih =>
      intro b M f S1 v hb hM hF hs1 ho heq
      have hr7 : rt b < 10007 := Nat.mod_lt _ (by decide)
      have inner : ∀ k K S2, okP n K → k < 100 → tIs S2 t n K (va_up f b k) z → Out S S2 t 4 → strip n (rt b) k K = strip n (rt b) (f b) M → J S2 26 [some (.ref t), some (.int (nI b)), some (.int (nI (rt b)))] [] := by
        intro k
        have out : ∀ K S2, okP n K → k < 100 → tIs S2 t n K (va_up f b k) z → Out S S2 t 4 → (K, k) = strip n (rt b) (f b) M → J S2 68 [some (.ref t), some (.int (nI b)), some (.int (nI (rt b)))] [] := by
          intro K S2 hK hk hs2 ho2 hst
          refine r_iincN X 1 d_Term_normalise_68 (by rfl) (by decide) (by decide) ?_
          refine r_goto X d_Term_normalise_71 (tgt := 14) (by decide) ?_
          refine ih (b + 1) K (va_up f b k) S2 _ (by omega) hK (hF.up (by omega) hk) hs2 ho2 ?_
          rw [← heq]
          show _ = nrl n m (b + 1) (strip n (rt b) (f b) M).1 (va_up f b (strip n (rt b) (f b) M).2)
          rw [← hst]
        induction k with
        | zero =>
          intro K S2 hK hk hs2 ho2 hst
          refine r_aload_n X d_Term_normalise_26 (by rfl) ?_
          refine r_get X lf_Term_20 d_Term_normalise_27 (by assumption) (by rfl) ?_
          refine r_iload_n X d_Term_normalise_30 (by rfl) ?_
          refine r_iald X d_Term_normalise_31 (by assumption) (by omega) (by omega) ?_
          rw [hs2.2.1, va_up_s]
          refine r_if_leN X d_Term_normalise_32 (tgt := 68) (by decide) (by omega) (fun hc => ?_) (fun hc => ?_)
          · exact out K S2 hK hk hs2 ho2 hst
          · omega
        | succ k ihk =>
          intro K S2 hK hk hs2 ho2 hst
          have hst : (if hn K (rt b) n 0 = 0 then strip n (rt b) k (dq n (rt b) K) else (K, k + 1)) = strip n (rt b) (f b) M := hst
          have hh := hn_lt K (rt b) n 0
          refine r_aload_n X d_Term_normalise_26 (by rfl) ?_
          refine r_get X lf_Term_20 d_Term_normalise_27 (by assumption) (by rfl) ?_
          refine r_iload_n X d_Term_normalise_30 (by rfl) ?_
          refine r_iald X d_Term_normalise_31 (by assumption) (by omega) (by omega) ?_
          rw [hs2.2.1, va_up_s]
          refine r_if_leN X d_Term_normalise_32 (tgt := 68) (by decide) (by omega) (fun hc => ?_) (fun hc => ?_)
          · omega
          · refine r_aload_n X d_Term_normalise_35 (by rfl) ?_
            refine r_get X lf_Term_14 d_Term_normalise_36 (by assumption) (by rfl) ?_
            refine r_iload_n X d_Term_normalise_39 (by rfl) ?_
            refine r_cVi X lv_Term_72 (c_at hpp0 hK hs2.1 hr7) (by assumption) (by decide) rfl (Nat.le_of_ble_eq_true rfl) d_Term_normalise_40 rfl (fun S3 r h3 => ?_)
            obtain ⟨rfl, rfl⟩ := h3
            refine r_if_neN X d_Term_normalise_43 (tgt := 68) (by decide) (by omega) (fun hc => ?_) (fun hc => ?_)
            · rw [if_neg hc] at hst
              exact out K S3 hK hk hs2 ho2 hst
            · rw [if_pos hc] at hst
              refine r_aload_n X d_Term_normalise_46 (by rfl) ?_
              refine r_get X lf_Term_14 d_Term_normalise_47 (by assumption) (by rfl) ?_
              refine r_iload_n X d_Term_normalise_50 (by rfl) ?_
              refine r_cVi X lv_Term_80 (c_divideBy (b := b) hpp0 hK hs2.1 (by omega)) (by assumption) (by decide) rfl (Nat.le_of_ble_eq_true rfl) d_Term_normalise_51 rfl (fun S4 r h4 => ?_)
              obtain ⟨⟨h4, ho4⟩, rfl⟩ := h4
              have e4 : S4.1 (t + 3) b = k + 1 := by rw [ho4.a1 (by omega), hs2.2.1, va_up_s]
              refine r_pop X d_Term_normalise_54 (by rfl) ?_
              refine r_aload_n X d_Term_normalise_55 (by rfl) ?_
              refine r_get X lf_Term_20 d_Term_normalise_56 (by assumption) (by rfl) ?_
              refine r_iload_n X d_Term_normalise_59 (by rfl) ?_
              refine r_dup2 X d_Term_normalise_60 (by rfl) (by rfl) ?_
              refine r_iald X d_Term_normalise_61 (by assumption) (by omega) (by omega) ?_
              rw [e4]
              refine r_iconst X (x := (nI 1)) d_Term_normalise_62 (by decide) ?_
              first | refine r_isubN X d_Term_normalise_63 (by omega) ?_ | refine r_isub X d_Term_normalise_63 ?_
              refine r_iast X d_Term_normalise_64 (by assumption) (by omega) (by omega) ?_
              refine r_goto X d_Term_normalise_65 (tgt := 26) (by decide) ?_
              refine ihk ?_ (dq n (rt b) K) _ (dq_ok n (rt b) K) (by omega) ⟨?_, ?_, ?_⟩ ?_ hst
              · intro K S2 hK hk hs2 ho2 hst
                exact (by
                  refine r_iincN X 1 d_Term_normalise_68 (by rfl) (by decide) (by decide) ?_
                  refine r_goto X d_Term_normalise_71 (tgt := 14) (by decide) ?_
                  refine ih (b + 1) K (va_up f b k) S2 _ (by omega) hK (hF.up (by omega) hk) hs2 ho2 ?_
                  rw [← heq]
                  show _ = nrl n m (b + 1) (strip n (rt b) (f b) M).1 (va_up f b (strip n (rt b) (f b) M).2)
                  rw [← hst])
              · exact h4.out (Out.ar (a := t + 3) (q := t + 3) (w := 1) (by omega) (by omega)) (by omega)
              · rw [arS_1, ho4.a1 (by omega), hs2.2.1, va_up_up]
                rfl
              · rw [arS_2, ho4.a2 (by omega)]
                exact hs2.2.2
              · exact (ho2.trans (ho4.wide (by omega) (by omega))).trans (Out.ar (by omega) (by omega))
      refine r_iload_n X d_Term_normalise_14 (by rfl) ?_
      refine r_bipush X (x := (nI 8)) d_Term_normalise_15 (by decide) ?_
      refine r_icmp_gtN X d_Term_normalise_17 (tgt := 74) (by decide) (by omega) (by omega) (fun hc => ?_) (fun hc => ?_)
      · omega
      · refine r_iload_n X d_Term_normalise_20 (by rfl) ?_
        refine r_ineg X d_Term_normalise_21 ?_
        refine r_cSi X ls_Term_54 c_of (by decide) rfl (Nat.le_of_ble_eq_true rfl) d_Term_normalise_22 rfl (fun S2 r h2 => ?_)
        obtain ⟨rfl, rfl⟩ := h2
        rw [em_neg (by omega)]
        refine r_istore_n X d_Term_normalise_25 (by decide) ?_
        refine inner (f b) M _ hM (hF.1 b) ?_ ho rfl
        rw [va_up_id]
        exact hs1
  refine r_aload_n X d_Term_normalise_0 (by rfl) ?_
  refine r_cVi X lv_Term_75 (c_isZero hp0 hs) (by assumption) (by decide) rfl (Nat.le_of_ble_eq_true rfl) d_Term_normalise_1 rfl (fun S1 r h1 => ?_)
  obtain ⟨rfl, ⟨rfl, h1⟩ | ⟨rfl, h1⟩⟩ := h1
  · refine r_if_eqN X d_Term_normalise_4 (tgt := 12) (by decide) (by omega) (fun hc => ?_) (fun hc => ?_)
    · omega
    · refine r_aload_n X d_Term_normalise_7 (by rfl) ?_
      refine r_cVv X lv_Term_79 (c_tclear hp0) (by assumption) (by decide) rfl (Nat.le_of_ble_eq_true rfl) d_Term_normalise_8 rfl (fun S2 h2 => ?_)
      obtain ⟨h2, ho⟩ := h2
      refine hR _ _ _ d_Term_normalise_11 ⟨rfl, ?_, ho⟩
      unfold nrN nrE nrZ
      rw [if_pos h1, if_pos h1, if_pos h1]
      exact h2
  · refine r_if_eqN X d_Term_normalise_4 (tgt := 12) (by decide) (by omega) (fun hc => ?_) (fun hc => ?_)
    · refine r_iconst X (x := (nI 0)) d_Term_normalise_12 (by decide) ?_
      refine r_istore_n X d_Term_normalise_13 (by decide) ?_
      exact outer h1 9 0 N e _ _ (by omega) hN hE hs (Out.rf _ _ _) rfl
    · omega
set_option maxHeartbeats 4000000 in
set_option maxRecDepth 100000 in
theorem c_tproduct {t n u m w k z y : Nat} {N e M f : Nat → Nat} (hp : isT G t n) (hu : isT G u m) (hw : isT G w k) (hne : t ≠ u) (hne' : t ≠ w) (hN : okP m N) (hM : okP k M) (hE : okE e) (hF : okE f) (hE3 : ∀ i, e i ≤ 3) (hF3 : ∀ i, f i ≤ 3) (hz : z < 10007) (hy : y < 10007) (hs : tIs S u m N e z) (hs' : tIs S w k M f y) : CT (mkE l D cI cT) G y_Term_becomeProduct b_Term_becomeProduct 4 none 4 [.ref t, .ref u, .ref w] S (Pv (fun S' => tIs S' t n (nrN n (prd n m N M) (fun i => e i + f i)) (nrE n (prd n m N M) (fun i => e i + f i)) (nrZ n (prd n m N M) (z * y % 10007)) ∧ Out S S' t 4)) := by
  have hp0 := hp
  have sep := hp.sep hu hne
  have sep' := hp.sep hw hne'
  obtain ⟨hT, hpp, he⟩ := hp
  have hpp0 := hpp
  obtain ⟨hq, ha, hn2, hnn⟩ := hpp
  obtain ⟨hU, hpu, hue⟩ := hu
  have hpu0 := hpu
  obtain ⟨hqu, hau, hnu2, hnnu⟩ := hpu
  obtain ⟨hW, hpw, hwe⟩ := hw
  have hpw0 := hpw
  obtain ⟨hqw, haw, hnw2, hnnw⟩ := hpw
  refine mk_v (by decide) (eok l D cI cT) (by simp [Value.category]) (Nat.le_of_ble_eq_true rfl) (fun J X hR => ?_)
  show J S 0 [some (.ref t), some (.ref u), some (.ref w), none] []
  have hm := mul_bd hz hy
  refine r_aload_n X d_Term_becomeProduct_0 (by rfl) ?_
  refine r_aload_n X d_Term_becomeProduct_1 (by rfl) ?_
  refine r_get X lf_Term_24 d_Term_becomeProduct_2 (by assumption) (by rfl) ?_
  refine r_aload_n X d_Term_becomeProduct_5 (by rfl) ?_
  refine r_get X lf_Term_24 d_Term_becomeProduct_6 (by assumption) (by rfl) ?_
  rw [hs.2.2, hs'.2.2]
  first | refine r_imulN X d_Term_becomeProduct_9 ?_ | refine r_imul X d_Term_becomeProduct_9 ?_
  refine r_sipush X (x := (nI 10007)) d_Term_becomeProduct_10 (by decide) ?_
  refine r_iremN X d_Term_becomeProduct_13 (by decide) (by decide) (by omega) ?_
  refine r_put X lp_Term_24 d_Term_becomeProduct_14 (by assumption) (by rfl) (Nat.le_of_ble_eq_true rfl) ?_
  refine r_aload_n X d_Term_becomeProduct_17 (by rfl) ?_
  refine r_get X lf_Term_14 d_Term_becomeProduct_18 (by assumption) (by rfl) ?_
  refine r_aload_n X d_Term_becomeProduct_21 (by rfl) ?_
  refine r_get X lf_Term_14 d_Term_becomeProduct_22 (by assumption) (by rfl) ?_
  refine r_aload_n X d_Term_becomeProduct_25 (by rfl) ?_
  refine r_get X lf_Term_14 d_Term_becomeProduct_26 (by assumption) (by rfl) ?_
  have ho1 : Out S (fdS S t (nI (z * y % 10007))) t 1 := Out.fd (by omega) (by omega)
  have ez : (fdS S t (nI (z * y % 10007))).2 t = nI (z * y % 10007) := fdS_2 _ _ _
  have hs1 := hs.out ho1 (by omega)
  have hs1' := hs'.out ho1 (by omega)
  revert ho1 ez hs1 hs1'
  generalize fdS S t (nI (z * y % 10007)) = S1
  intro ho1 ez hs1 hs1'
  refine r_cVv X lv_Term_83 (c_pproduct hpp0 hpu0 hpw0 (by omega) (by omega) hN hM hs1.1 hs1'.1) (by assumption) (by decide) rfl (Nat.le_of_ble_eq_true rfl) d_Term_becomeProduct_29 rfl (fun S2 h2 => ?_)
  obtain ⟨h2, ho2⟩ := h2
  have hs2 := hs1.out ho2 (by omega)
  have hs2' := hs1'.out ho2 (by omega)
  have hokE : okE (fun i => e i + f i) := ⟨fun i => by have := hE3 i; have := hF3 i; show e i + f i < 100; omega, fun i hi => by show e i + f i = 0; rw [hE.2 i hi, hF.2 i hi]⟩
  have loop : ∀ j b S3, b + j = 9 → S3 = arS S2 (t + 3) (fun i => if i < b then e i + f i else S2.1 (t + 3) i) → J S3 34 [some (.ref t), some (.ref u), some (.ref w), some (.int (nI b))] [] := by
    intro j
    induction j with
    | zero =>
      intro b S3 hb hS
      refine r_iload_n X d_Term_becomeProduct_34 (by rfl) ?_
      refine r_bipush X (x := (nI 8)) d_Term_becomeProduct_35 (by decide) ?_
      refine r_icmp_gtN X d_Term_becomeProduct_37 (tgt := 65) (by decide) (by omega) (by omega) (fun hc => ?_) (fun hc => ?_)
      · refine r_trunc X (f := fun i => e i + f i) he (fun i hi => ?_) ?_
        · rw [hS, arS_1, if_pos (by omega)]
        · rw [hS, arS_arS]
          have ho3 : Out S2 (arS S2 (t + 3) (fun i => e i + f i)) (t + 3) 1 := Out.ar (by omega) (by omega)
          have ht3 : tIs (arS S2 (t + 3) (fun i => e i + f i)) t n (prd n m N M) (fun i => e i + f i) (z * y % 10007) := ⟨h2.out ho3 (by omega), arS_1 _ _ _, by rw [arS_2, ho2.a2 (by omega), ez]⟩
          revert ho3 ht3
          generalize arS S2 (t + 3) (fun i => e i + f i) = S4
          intro ho3 ht3
          refine r_aload_n X d_Term_becomeProduct_65 (by rfl) ?_
          refine r_cVv X lv_Term_87 (c_normalise hp0 (prd_ok n m N M) hokE ht3) (by assumption) (by decide) rfl (Nat.le_of_ble_eq_true rfl) d_Term_becomeProduct_66 rfl (fun S5 h5 => ?_)
          obtain ⟨h5, ho5⟩ := h5
          refine hR _ _ _ d_Term_becomeProduct_69 ⟨rfl, h5, ?_⟩
          exact (((ho1.wide (by omega) (by omega)).trans (ho2.wide (by omega) (by omega))).trans (ho3.wide (by omega) (by omega))).trans ho5
      · omega
    | succ j ih =>
      intro b S3 hb hS
      have e1 : S3.1 (u + 3) b = e b := by rw [hS, arS_1n (by omega), hs2.2.1]
      have e2 : S3.1 (w + 3) b = f b := by rw [hS, arS_1n (by omega), hs2'.2.1]
      refine r_iload_n X d_Term_becomeProduct_34 (by rfl) ?_
      refine r_bipush X (x := (nI 8)) d_Term_becomeProduct_35 (by decide) ?_
      refine r_icmp_gtN X d_Term_becomeProduct_37 (tgt := 65) (by decide) (by omega) (by omega) (fun hc => ?_) (fun hc => ?_)
      · omega
      · refine r_aload_n X d_Term_becomeProduct_40 (by rfl) ?_
        refine r_get X lf_Term_20 d_Term_becomeProduct_41 (by assumption) (by rfl) ?_
        refine r_iload_n X d_Term_becomeProduct_44 (by rfl) ?_
        refine r_aload_n X d_Term_becomeProduct_45 (by rfl) ?_
        refine r_get X lf_Term_20 d_Term_becomeProduct_46 (by assumption) (by rfl) ?_
        refine r_iload_n X d_Term_becomeProduct_49 (by rfl) ?_
        refine r_iald X d_Term_becomeProduct_50 (by assumption) (by omega) (by omega) ?_
        refine r_aload_n X d_Term_becomeProduct_51 (by rfl) ?_
        refine r_get X lf_Term_20 d_Term_becomeProduct_52 (by assumption) (by rfl) ?_
        refine r_iload_n X d_Term_becomeProduct_55 (by rfl) ?_
        refine r_iald X d_Term_becomeProduct_56 (by assumption) (by omega) (by omega) ?_
        rw [e1, e2]
        first | refine r_iaddN X d_Term_becomeProduct_57 ?_ | refine r_iadd X d_Term_becomeProduct_57 ?_
        refine r_iast X d_Term_becomeProduct_58 (by assumption) (by omega) (by omega) ?_
        refine r_iincN X 1 d_Term_becomeProduct_59 (by rfl) (by decide) (by decide) ?_
        refine r_goto X d_Term_becomeProduct_62 (tgt := 34) (by decide) ?_
        refine ih (b + 1) _ (by omega) ?_
        rw [hS, arS_arS, arS_1]
        congr 1
        exact up_lt (fun i => e i + f i) _ b
  refine r_iconst X (x := (nI 0)) d_Term_becomeProduct_32 (by decide) ?_
  refine r_istore_n X d_Term_becomeProduct_33 (by decide) ?_
  refine loop 9 0 _ (by omega) ?_
  rw [if_lt0 (fun i => e i + f i), arS_id]
def sh1 (e : Nat → Nat) : Nat → Nat := fun i => if i = 0 then 0 else if i < 9 then e (i - 1) else 0
theorem sh1_ok {e : Nat → Nat} (h : okE e) : okE (sh1 e) := by
  refine ⟨fun i => ?_, fun i hi => ?_⟩
  · unfold sh1
    split
    · decide
    · split
      · exact h.1 _
      · decide
  · unfold sh1
    rw [if_neg (by omega), if_neg (by omega)]
set_option maxHeartbeats 4000000 in
set_option maxRecDepth 100000 in
theorem c_next {t n u m z : Nat} {N e : Nat → Nat} (hp : isT G t n) (hu : isT G u m) (hne : t ≠ u) (hN : okP m N) (hE : okE e) (hz : z < 10007) (hs : tIs S u m N e z) : CT (mkE l D cI cT) G y_Term_becomeNext b_Term_becomeNext 2 none 2 [.ref t, .ref u] S (Pv (fun S' => tIs S' t n (scl z (tyl n n (cut n N))) (sh1 e) z ∧ Out S S' t 4)) := by
  have sep := hp.sep hu hne
  obtain ⟨hT, hpp, he⟩ := hp
  have hpp0 := hpp
  obtain ⟨hq, ha, hn2, hnn⟩ := hpp
  obtain ⟨hU, hpu, hue⟩ := hu
  have hpu0 := hpu
  obtain ⟨hqu, hau, hnu2, hnnu⟩ := hpu
  refine mk_v (by decide) (eok l D cI cT) (by simp [Value.category]) (Nat.le_of_ble_eq_true rfl) (fun J X hR => ?_)
  show J S 0 [some (.ref t), some (.ref u)] []
  refine r_aload_n X d_Term_becomeNext_0 (by rfl) ?_
  refine r_aload_n X d_Term_becomeNext_1 (by rfl) ?_
  refine r_get X lf_Term_24 d_Term_becomeNext_2 (by assumption) (by rfl) ?_
  rw [hs.2.2]
  refine r_put X lp_Term_24 d_Term_becomeNext_5 (by assumption) (by rfl) (Nat.le_of_ble_eq_true rfl) ?_
  refine r_aload_n X d_Term_becomeNext_8 (by rfl) ?_
  refine r_get X lf_Term_14 d_Term_becomeNext_9 (by assumption) (by rfl) ?_
  refine r_aload_n X d_Term_becomeNext_12 (by rfl) ?_
  refine r_get X lf_Term_14 d_Term_becomeNext_13 (by assumption) (by rfl) ?_
  have ho1 : Out S (fdS S t (nI z)) t 1 := Out.fd (by omega) (by omega)
  have ez : (fdS S t (nI z)).2 t = nI z := fdS_2 _ _ _
  have hs1 := hs.out ho1 (by omega)
  revert ho1 ez hs1
  generalize fdS S t (nI z) = S1
  intro ho1 ez hs1
  refine r_cVv X lv_Term_37 (c_copyFrom hpp0 hpu0 (by omega) hN hs1.1.1) (by assumption) (by decide) rfl (Nat.le_of_ble_eq_true rfl) d_Term_becomeNext_16 rfl (fun S2 h2 => ?_)
  obtain ⟨h2, ho2⟩ := h2
  have hc := cut_ok n hN.1
  refine r_aload_n X d_Term_becomeNext_19 (by rfl) ?_
  refine r_get X lf_Term_14 d_Term_becomeNext_20 (by assumption) (by rfl) ?_
  refine r_cVv X lv_Term_90 (c_moveOn hpp0 hc h2) (by assumption) (by decide) rfl (Nat.le_of_ble_eq_true rfl) d_Term_becomeNext_23 rfl (fun S3 h3 => ?_)
  obtain ⟨h3, ho3⟩ := h3
  have ez3 : S3.2 t = nI z := by rw [ho3.a2 (by omega), ho2.a2 (by omega), ez]
  refine r_aload_n X d_Term_becomeNext_26 (by rfl) ?_
  refine r_get X lf_Term_14 d_Term_becomeNext_27 (by assumption) (by rfl) ?_
  refine r_aload_n X d_Term_becomeNext_30 (by rfl) ?_
  refine r_get X lf_Term_24 d_Term_becomeNext_31 (by assumption) (by rfl) ?_
  rw [ez3]
  refine r_cVv X lv_Term_93 (c_scale hpp0 (tyl_ok hc n) h3 hz) (by assumption) (by decide) rfl (Nat.le_of_ble_eq_true rfl) d_Term_becomeNext_34 rfl (fun S4 h4 => ?_)
  obtain ⟨h4, ho4⟩ := h4
  have ez4 : S4.2 t = nI z := by rw [ho4.a2 (by omega), ez3]
  have hs4 := ((hs1.out ho2 (by omega)).out ho3 (by omega)).out ho4 (by omega)
  refine r_aload_n X d_Term_becomeNext_37 (by rfl) ?_
  refine r_get X lf_Term_20 d_Term_becomeNext_38 (by assumption) (by rfl) ?_
  refine r_iconst X (x := (nI 0)) d_Term_becomeNext_41 (by decide) ?_
  refine r_iconst X (x := (nI 0)) d_Term_becomeNext_42 (by decide) ?_
  refine r_iast X d_Term_becomeNext_43 (by assumption) (by omega) (by omega) ?_
  refine r_aload_n X d_Term_becomeNext_44 (by rfl) ?_
  refine r_get X lf_Term_20 d_Term_becomeNext_45 (by assumption) (by rfl) ?_
  refine r_iconst X (x := (nI 0)) d_Term_becomeNext_48 (by decide) ?_
  refine r_aload_n X d_Term_becomeNext_49 (by rfl) ?_
  refine r_get X lf_Term_20 d_Term_becomeNext_50 (by assumption) (by rfl) ?_
  refine r_iconst X (x := (nI 1)) d_Term_becomeNext_53 (by decide) ?_
  refine r_bipush X (x := (nI 8)) d_Term_becomeNext_54 (by decide) ?_
  refine r_copy X ly_Term_41 (by decide) (by assumption) (by assumption) (by omega) (by omega) (by omega) (by omega) rfl d_Term_becomeNext_56 ?_
  refine r_trunc X (f := sh1 e) he (fun i hi => ?_) ?_
  · rw [arS_1, arS_1n (a := t + 3) (b := u + 3) (by omega), arS_1, hs4.2.1]
    unfold sh1 va_cpy va_up
    by_cases h0 : i = 0
    · rw [if_pos h0, if_neg (by omega), if_pos h0]
    · rw [if_neg h0, if_pos hi, if_pos (by omega), show 0 + (i - 1) = i - 1 by omega]
  · rw [arS_arS, arS_arS]
    have ho5 : Out S4 (arS S4 (t + 3) (sh1 e)) (t + 3) 1 := Out.ar (by omega) (by omega)
    refine hR _ _ _ d_Term_becomeNext_59 ⟨rfl, ⟨h4.out ho5 (by omega), arS_1 _ _ _, by rw [arS_2, ez4]⟩, ?_⟩
    exact ((((ho1.wide (by omega) (by omega)).trans (ho2.wide (by omega) (by omega))).trans (ho3.wide (by omega) (by omega))).trans (ho4.wide (by omega) (by omega))).trans (ho5.wide (by omega) (by omega))
end T2
end
section
theorem d_Comb_init_0 : decode b_Comb_init 0 = .ok (.aload_n 0, 1) := by decide +kernel
theorem d_Comb_init_1 : decode b_Comb_init 1 = .ok (.invokespecial 3, 3) := by decide +kernel
theorem d_Comb_init_4 : decode b_Comb_init 4 = .ok (.aload_n 0, 1) := by decide +kernel
theorem d_Comb_init_5 : decode b_Comb_init 5 = .ok (.new 9, 3) := by decide +kernel
theorem d_Comb_init_8 : decode b_Comb_init 8 = .ok (.dup, 1) := by decide +kernel
theorem d_Comb_init_9 : decode b_Comb_init 9 = .ok (.bipush 64, 2) := by decide +kernel
theorem d_Comb_init_11 : decode b_Comb_init 11 = .ok (.invokespecial 11, 3) := by decide +kernel
theorem d_Comb_init_14 : decode b_Comb_init 14 = .ok (.putfield 14, 3) := by decide +kernel
theorem d_Comb_init_17 : decode b_Comb_init 17 = .ok (.aload_n 0, 1) := by decide +kernel
theorem d_Comb_init_18 : decode b_Comb_init 18 = .ok (.new 20, 3) := by decide +kernel
theorem d_Comb_init_21 : decode b_Comb_init 21 = .ok (.dup, 1) := by decide +kernel
theorem d_Comb_init_22 : decode b_Comb_init 22 = .ok (.bipush 64, 2) := by decide +kernel
theorem d_Comb_init_24 : decode b_Comb_init 24 = .ok (.invokespecial 22, 3) := by decide +kernel
theorem d_Comb_init_27 : decode b_Comb_init 27 = .ok (.putfield 23, 3) := by decide +kernel
theorem d_Comb_init_30 : decode b_Comb_init 30 = .ok (.return_, 1) := by decide +kernel
theorem d_Comb_combine_0 : decode b_Comb_combine 0 = .ok (.aload_n 1, 1) := by decide +kernel
theorem d_Comb_combine_1 : decode b_Comb_combine 1 = .ok (.aload_n 2, 1) := by decide +kernel
theorem d_Comb_combine_2 : decode b_Comb_combine 2 = .ok (.invokevirtual 27, 3) := by decide +kernel
theorem d_Comb_combine_5 : decode b_Comb_combine 5 = .ok (.ifCond .eq 10, 3) := by decide +kernel
theorem d_Comb_combine_8 : decode b_Comb_combine 8 = .ok (.aload_n 3, 1) := by decide +kernel
theorem d_Comb_combine_9 : decode b_Comb_combine 9 = .ok (.getfield 31, 3) := by decide +kernel
theorem d_Comb_combine_12 : decode b_Comb_combine 12 = .ok (.goto 7, 3) := by decide +kernel
theorem d_Comb_combine_15 : decode b_Comb_combine 15 = .ok (.aload_n 2, 1) := by decide +kernel
theorem d_Comb_combine_16 : decode b_Comb_combine 16 = .ok (.getfield 31, 3) := by decide +kernel
theorem d_Comb_combine_19 : decode b_Comb_combine 19 = .ok (.putfield 31, 3) := by decide +kernel
theorem d_Comb_combine_22 : decode b_Comb_combine 22 = .ok (.iconst 0, 1) := by decide +kernel
theorem d_Comb_combine_23 : decode b_Comb_combine 23 = .ok (.istore 5, 2) := by decide +kernel
theorem d_Comb_combine_25 : decode b_Comb_combine 25 = .ok (.iload 5, 2) := by decide +kernel
theorem d_Comb_combine_27 : decode b_Comb_combine 27 = .ok (.bipush 8, 2) := by decide +kernel
theorem d_Comb_combine_29 : decode b_Comb_combine 29 = .ok (.if_icmp .gt 33, 3) := by decide +kernel
theorem d_Comb_combine_32 : decode b_Comb_combine 32 = .ok (.aload_n 1, 1) := by decide +kernel
theorem d_Comb_combine_33 : decode b_Comb_combine 33 = .ok (.getfield 35, 3) := by decide +kernel
theorem d_Comb_combine_36 : decode b_Comb_combine 36 = .ok (.iload 5, 2) := by decide +kernel
theorem d_Comb_combine_38 : decode b_Comb_combine 38 = .ok (.aload_n 2, 1) := by decide +kernel
theorem d_Comb_combine_39 : decode b_Comb_combine 39 = .ok (.getfield 35, 3) := by decide +kernel
theorem d_Comb_combine_42 : decode b_Comb_combine 42 = .ok (.iload 5, 2) := by decide +kernel
theorem d_Comb_combine_44 : decode b_Comb_combine 44 = .ok (.iaload, 1) := by decide +kernel
theorem d_Comb_combine_45 : decode b_Comb_combine 45 = .ok (.aload_n 3, 1) := by decide +kernel
theorem d_Comb_combine_46 : decode b_Comb_combine 46 = .ok (.getfield 35, 3) := by decide +kernel
theorem d_Comb_combine_49 : decode b_Comb_combine 49 = .ok (.iload 5, 2) := by decide +kernel
theorem d_Comb_combine_51 : decode b_Comb_combine 51 = .ok (.iaload, 1) := by decide +kernel
theorem d_Comb_combine_52 : decode b_Comb_combine 52 = .ok (.invokestatic 39, 3) := by decide +kernel
theorem d_Comb_combine_55 : decode b_Comb_combine 55 = .ok (.iastore, 1) := by decide +kernel
theorem d_Comb_combine_56 : decode b_Comb_combine 56 = .ok (.iinc 5 1, 3) := by decide +kernel
theorem d_Comb_combine_59 : decode b_Comb_combine 59 = .ok (.goto (-34), 3) := by decide +kernel
theorem d_Comb_combine_62 : decode b_Comb_combine 62 = .ok (.aload_n 1, 1) := by decide +kernel
theorem d_Comb_combine_63 : decode b_Comb_combine 63 = .ok (.getfield 45, 3) := by decide +kernel
theorem d_Comb_combine_66 : decode b_Comb_combine 66 = .ok (.invokevirtual 48, 3) := by decide +kernel
theorem d_Comb_combine_69 : decode b_Comb_combine 69 = .ok (.aload_n 0, 1) := by decide +kernel
theorem d_Comb_combine_70 : decode b_Comb_combine 70 = .ok (.aload_n 1, 1) := by decide +kernel
theorem d_Comb_combine_71 : decode b_Comb_combine 71 = .ok (.aload_n 2, 1) := by decide +kernel
theorem d_Comb_combine_72 : decode b_Comb_combine 72 = .ok (.iconst 1, 1) := by decide +kernel
theorem d_Comb_combine_73 : decode b_Comb_combine 73 = .ok (.invokevirtual 51, 3) := by decide +kernel
theorem d_Comb_combine_76 : decode b_Comb_combine 76 = .ok (.aload_n 0, 1) := by decide +kernel
theorem d_Comb_combine_77 : decode b_Comb_combine 77 = .ok (.aload_n 1, 1) := by decide +kernel
theorem d_Comb_combine_78 : decode b_Comb_combine 78 = .ok (.aload_n 3, 1) := by decide +kernel
theorem d_Comb_combine_79 : decode b_Comb_combine 79 = .ok (.iload 4, 2) := by decide +kernel
theorem d_Comb_combine_81 : decode b_Comb_combine 81 = .ok (.invokevirtual 51, 3) := by decide +kernel
theorem d_Comb_combine_84 : decode b_Comb_combine 84 = .ok (.aload_n 1, 1) := by decide +kernel
theorem d_Comb_combine_85 : decode b_Comb_combine 85 = .ok (.invokevirtual 55, 3) := by decide +kernel
theorem d_Comb_combine_88 : decode b_Comb_combine 88 = .ok (.return_, 1) := by decide +kernel
theorem d_Comb_addWidened_0 : decode b_Comb_addWidened 0 = .ok (.aload_n 0, 1) := by decide +kernel
theorem d_Comb_addWidened_1 : decode b_Comb_addWidened 1 = .ok (.getfield 23, 3) := by decide +kernel
theorem d_Comb_addWidened_4 : decode b_Comb_addWidened 4 = .ok (.aload_n 2, 1) := by decide +kernel
theorem d_Comb_addWidened_5 : decode b_Comb_addWidened 5 = .ok (.getfield 45, 3) := by decide +kernel
theorem d_Comb_addWidened_8 : decode b_Comb_addWidened 8 = .ok (.invokevirtual 66, 3) := by decide +kernel
theorem d_Comb_addWidened_11 : decode b_Comb_addWidened 11 = .ok (.iconst 0, 1) := by decide +kernel
theorem d_Comb_addWidened_12 : decode b_Comb_addWidened 12 = .ok (.istore 4, 2) := by decide +kernel
theorem d_Comb_addWidened_14 : decode b_Comb_addWidened 14 = .ok (.iload 4, 2) := by decide +kernel
theorem d_Comb_addWidened_16 : decode b_Comb_addWidened 16 = .ok (.bipush 8, 2) := by decide +kernel
theorem d_Comb_addWidened_18 : decode b_Comb_addWidened 18 = .ok (.if_icmp .gt 33, 3) := by decide +kernel
theorem d_Comb_addWidened_21 : decode b_Comb_addWidened 21 = .ok (.aload_n 0, 1) := by decide +kernel
theorem d_Comb_addWidened_22 : decode b_Comb_addWidened 22 = .ok (.getfield 23, 3) := by decide +kernel
theorem d_Comb_addWidened_25 : decode b_Comb_addWidened 25 = .ok (.iload 4, 2) := by decide +kernel
theorem d_Comb_addWidened_27 : decode b_Comb_addWidened 27 = .ok (.aload_n 1, 1) := by decide +kernel
theorem d_Comb_addWidened_28 : decode b_Comb_addWidened 28 = .ok (.getfield 35, 3) := by decide +kernel
theorem d_Comb_addWidened_31 : decode b_Comb_addWidened 31 = .ok (.iload 4, 2) := by decide +kernel
theorem d_Comb_addWidened_33 : decode b_Comb_addWidened 33 = .ok (.iaload, 1) := by decide +kernel
theorem d_Comb_addWidened_34 : decode b_Comb_addWidened 34 = .ok (.aload_n 2, 1) := by decide +kernel
theorem d_Comb_addWidened_35 : decode b_Comb_addWidened 35 = .ok (.getfield 35, 3) := by decide +kernel
theorem d_Comb_addWidened_38 : decode b_Comb_addWidened 38 = .ok (.iload 4, 2) := by decide +kernel
theorem d_Comb_addWidened_40 : decode b_Comb_addWidened 40 = .ok (.iaload, 1) := by decide +kernel
theorem d_Comb_addWidened_41 : decode b_Comb_addWidened 41 = .ok (.isub, 1) := by decide +kernel
theorem d_Comb_addWidened_42 : decode b_Comb_addWidened 42 = .ok (.invokevirtual 70, 3) := by decide +kernel
theorem d_Comb_addWidened_45 : decode b_Comb_addWidened 45 = .ok (.iinc 4 1, 3) := by decide +kernel
theorem d_Comb_addWidened_48 : decode b_Comb_addWidened 48 = .ok (.goto (-34), 3) := by decide +kernel
theorem d_Comb_addWidened_51 : decode b_Comb_addWidened 51 = .ok (.aload_n 1, 1) := by decide +kernel
theorem d_Comb_addWidened_52 : decode b_Comb_addWidened 52 = .ok (.getfield 45, 3) := by decide +kernel
theorem d_Comb_addWidened_55 : decode b_Comb_addWidened 55 = .ok (.aload_n 0, 1) := by decide +kernel
theorem d_Comb_addWidened_56 : decode b_Comb_addWidened 56 = .ok (.getfield 23, 3) := by decide +kernel
theorem d_Comb_addWidened_59 : decode b_Comb_addWidened 59 = .ok (.iload_n 3, 1) := by decide +kernel
theorem d_Comb_addWidened_60 : decode b_Comb_addWidened 60 = .ok (.invokevirtual 74, 3) := by decide +kernel
theorem d_Comb_addWidened_63 : decode b_Comb_addWidened 63 = .ok (.return_, 1) := by decide +kernel
theorem d_Comb_subtractFromNext_0 : decode b_Comb_subtractFromNext 0 = .ok (.aload_n 0, 1) := by decide +kernel
theorem d_Comb_subtractFromNext_1 : decode b_Comb_subtractFromNext 1 = .ok (.getfield 14, 3) := by decide +kernel
theorem d_Comb_subtractFromNext_4 : decode b_Comb_subtractFromNext 4 = .ok (.aload_n 2, 1) := by decide +kernel
theorem d_Comb_subtractFromNext_5 : decode b_Comb_subtractFromNext 5 = .ok (.invokevirtual 58, 3) := by decide +kernel
theorem d_Comb_subtractFromNext_8 : decode b_Comb_subtractFromNext 8 = .ok (.aload_n 0, 1) := by decide +kernel
theorem d_Comb_subtractFromNext_9 : decode b_Comb_subtractFromNext 9 = .ok (.aload_n 1, 1) := by decide +kernel
theorem d_Comb_subtractFromNext_10 : decode b_Comb_subtractFromNext 10 = .ok (.aload_n 0, 1) := by decide +kernel
theorem d_Comb_subtractFromNext_11 : decode b_Comb_subtractFromNext 11 = .ok (.getfield 14, 3) := by decide +kernel
theorem d_Comb_subtractFromNext_14 : decode b_Comb_subtractFromNext 14 = .ok (.aload_n 2, 1) := by decide +kernel
theorem d_Comb_subtractFromNext_15 : decode b_Comb_subtractFromNext 15 = .ok (.sipush 10006, 3) := by decide +kernel
theorem d_Comb_subtractFromNext_18 : decode b_Comb_subtractFromNext 18 = .ok (.invokevirtual 62, 3) := by decide +kernel
theorem d_Comb_subtractFromNext_21 : decode b_Comb_subtractFromNext 21 = .ok (.return_, 1) := by decide +kernel
theorem d_Split_init_0 : decode b_Split_init 0 = .ok (.aload_n 0, 1) := by decide +kernel
theorem d_Split_init_1 : decode b_Split_init 1 = .ok (.invokespecial 3, 3) := by decide +kernel
theorem d_Split_init_4 : decode b_Split_init 4 = .ok (.aload_n 0, 1) := by decide +kernel
theorem d_Split_init_5 : decode b_Split_init 5 = .ok (.iconst 3, 1) := by decide +kernel
theorem d_Split_init_6 : decode b_Split_init 6 = .ok (.newarray .int, 2) := by decide +kernel
theorem d_Split_init_8 : decode b_Split_init 8 = .ok (.putfield 9, 3) := by decide +kernel
theorem d_Split_init_11 : decode b_Split_init 11 = .ok (.aload_n 0, 1) := by decide +kernel
theorem d_Split_init_12 : decode b_Split_init 12 = .ok (.bipush 24, 2) := by decide +kernel
theorem d_Split_init_14 : decode b_Split_init 14 = .ok (.newarray .int, 2) := by decide +kernel
theorem d_Split_init_16 : decode b_Split_init 16 = .ok (.putfield 15, 3) := by decide +kernel
theorem d_Split_init_19 : decode b_Split_init 19 = .ok (.aload_n 0, 1) := by decide +kernel
theorem d_Split_init_20 : decode b_Split_init 20 = .ok (.new 18, 3) := by decide +kernel
theorem d_Split_init_23 : decode b_Split_init 23 = .ok (.dup, 1) := by decide +kernel
theorem d_Split_init_24 : decode b_Split_init 24 = .ok (.bipush 64, 2) := by decide +kernel
theorem d_Split_init_26 : decode b_Split_init 26 = .ok (.invokespecial 20, 3) := by decide +kernel
theorem d_Split_init_29 : decode b_Split_init 29 = .ok (.putfield 23, 3) := by decide +kernel
theorem d_Split_init_32 : decode b_Split_init 32 = .ok (.aload_n 0, 1) := by decide +kernel
theorem d_Split_init_33 : decode b_Split_init 33 = .ok (.new 18, 3) := by decide +kernel
theorem d_Split_init_36 : decode b_Split_init 36 = .ok (.dup, 1) := by decide +kernel
theorem d_Split_init_37 : decode b_Split_init 37 = .ok (.bipush 64, 2) := by decide +kernel
theorem d_Split_init_39 : decode b_Split_init 39 = .ok (.invokespecial 20, 3) := by decide +kernel
theorem d_Split_init_42 : decode b_Split_init 42 = .ok (.putfield 27, 3) := by decide +kernel
theorem d_Split_init_45 : decode b_Split_init 45 = .ok (.aload_n 0, 1) := by decide +kernel
theorem d_Split_init_46 : decode b_Split_init 46 = .ok (.new 18, 3) := by decide +kernel
theorem d_Split_init_49 : decode b_Split_init 49 = .ok (.dup, 1) := by decide +kernel
theorem d_Split_init_50 : decode b_Split_init 50 = .ok (.bipush 64, 2) := by decide +kernel
theorem d_Split_init_52 : decode b_Split_init 52 = .ok (.invokespecial 20, 3) := by decide +kernel
theorem d_Split_init_55 : decode b_Split_init 55 = .ok (.putfield 30, 3) := by decide +kernel
theorem d_Split_init_58 : decode b_Split_init 58 = .ok (.return_, 1) := by decide +kernel
theorem d_Split_split_0 : decode b_Split_split 0 = .ok (.aload_n 0, 1) := by decide +kernel
theorem d_Split_split_1 : decode b_Split_split 1 = .ok (.aload_n 1, 1) := by decide +kernel
theorem d_Split_split_2 : decode b_Split_split 2 = .ok (.aload_n 3, 1) := by decide +kernel
theorem d_Split_split_3 : decode b_Split_split 3 = .ok (.invokevirtual 41, 3) := by decide +kernel
theorem d_Split_split_6 : decode b_Split_split 6 = .ok (.aload_n 0, 1) := by decide +kernel
theorem d_Split_split_7 : decode b_Split_split 7 = .ok (.aload_n 1, 1) := by decide +kernel
theorem d_Split_split_8 : decode b_Split_split 8 = .ok (.invokevirtual 45, 3) := by decide +kernel
theorem d_Split_split_11 : decode b_Split_split 11 = .ok (.aload_n 0, 1) := by decide +kernel
theorem d_Split_split_12 : decode b_Split_split 12 = .ok (.aload_n 1, 1) := by decide +kernel
theorem d_Split_split_13 : decode b_Split_split 13 = .ok (.getfield 49, 3) := by decide +kernel
theorem d_Split_split_16 : decode b_Split_split 16 = .ok (.aload_n 2, 1) := by decide +kernel
theorem d_Split_split_17 : decode b_Split_split 17 = .ok (.invokevirtual 55, 3) := by decide +kernel
theorem d_Split_split_20 : decode b_Split_split 20 = .ok (.return_, 1) := by decide +kernel
theorem d_Split_splitPoles_0 : decode b_Split_splitPoles 0 = .ok (.aload_n 1, 1) := by decide +kernel
theorem d_Split_splitPoles_1 : decode b_Split_splitPoles 1 = .ok (.getfield 49, 3) := by decide +kernel
theorem d_Split_splitPoles_4 : decode b_Split_splitPoles 4 = .ok (.invokestatic 81, 3) := by decide +kernel
theorem d_Split_splitPoles_7 : decode b_Split_splitPoles 7 = .ok (.istore_n 3, 1) := by decide +kernel
theorem d_Split_splitPoles_8 : decode b_Split_splitPoles 8 = .ok (.aload_n 2, 1) := by decide +kernel
theorem d_Split_splitPoles_9 : decode b_Split_splitPoles 9 = .ok (.invokevirtual 84, 3) := by decide +kernel
theorem d_Split_splitPoles_12 : decode b_Split_splitPoles 12 = .ok (.aload_n 2, 1) := by decide +kernel
theorem d_Split_splitPoles_13 : decode b_Split_splitPoles 13 = .ok (.aload_n 1, 1) := by decide +kernel
theorem d_Split_splitPoles_14 : decode b_Split_splitPoles 14 = .ok (.getfield 49, 3) := by decide +kernel
theorem d_Split_splitPoles_17 : decode b_Split_splitPoles 17 = .ok (.putfield 49, 3) := by decide +kernel
theorem d_Split_splitPoles_20 : decode b_Split_splitPoles 20 = .ok (.aload_n 2, 1) := by decide +kernel
theorem d_Split_splitPoles_21 : decode b_Split_splitPoles 21 = .ok (.getfield 70, 3) := by decide +kernel
theorem d_Split_splitPoles_24 : decode b_Split_splitPoles 24 = .ok (.iconst 0, 1) := by decide +kernel
theorem d_Split_splitPoles_25 : decode b_Split_splitPoles 25 = .ok (.iconst 3, 1) := by decide +kernel
theorem d_Split_splitPoles_26 : decode b_Split_splitPoles 26 = .ok (.iastore, 1) := by decide +kernel
theorem d_Split_splitPoles_27 : decode b_Split_splitPoles 27 = .ok (.aload_n 0, 1) := by decide +kernel
theorem d_Split_splitPoles_28 : decode b_Split_splitPoles 28 = .ok (.getfield 15, 3) := by decide +kernel
theorem d_Split_splitPoles_31 : decode b_Split_splitPoles 31 = .ok (.iconst 0, 1) := by decide +kernel
theorem d_Split_splitPoles_32 : decode b_Split_splitPoles 32 = .ok (.invokestatic 87, 3) := by decide +kernel
theorem d_Split_splitPoles_35 : decode b_Split_splitPoles 35 = .ok (.bipush 7, 2) := by decide +kernel
theorem d_Split_splitPoles_37 : decode b_Split_splitPoles 37 = .ok (.istore 4, 2) := by decide +kernel
theorem d_Split_splitPoles_39 : decode b_Split_splitPoles 39 = .ok (.iload 4, 2) := by decide +kernel
theorem d_Split_splitPoles_41 : decode b_Split_splitPoles 41 = .ok (.ifCond .lt 103, 3) := by decide +kernel
theorem d_Split_splitPoles_44 : decode b_Split_splitPoles 44 = .ok (.aload_n 0, 1) := by decide +kernel
theorem d_Split_splitPoles_45 : decode b_Split_splitPoles 45 = .ok (.aload_n 1, 1) := by decide +kernel
theorem d_Split_splitPoles_46 : decode b_Split_splitPoles 46 = .ok (.iload 4, 2) := by decide +kernel
theorem d_Split_splitPoles_48 : decode b_Split_splitPoles 48 = .ok (.invokevirtual 33, 3) := by decide +kernel
theorem d_Split_splitPoles_51 : decode b_Split_splitPoles 51 = .ok (.iconst 1, 1) := by decide +kernel
theorem d_Split_splitPoles_52 : decode b_Split_splitPoles 52 = .ok (.istore 5, 2) := by decide +kernel
theorem d_Split_splitPoles_54 : decode b_Split_splitPoles 54 = .ok (.iload 5, 2) := by decide +kernel
theorem d_Split_splitPoles_56 : decode b_Split_splitPoles 56 = .ok (.iconst 3, 1) := by decide +kernel
theorem d_Split_splitPoles_57 : decode b_Split_splitPoles 57 = .ok (.if_icmp .gt 81, 3) := by decide +kernel
theorem d_Split_splitPoles_60 : decode b_Split_splitPoles 60 = .ok (.aload_n 0, 1) := by decide +kernel
theorem d_Split_splitPoles_61 : decode b_Split_splitPoles 61 = .ok (.aload_n 1, 1) := by decide +kernel
theorem d_Split_splitPoles_62 : decode b_Split_splitPoles 62 = .ok (.iload 4, 2) := by decide +kernel
theorem d_Split_splitPoles_64 : decode b_Split_splitPoles 64 = .ok (.iload 5, 2) := by decide +kernel
theorem d_Split_splitPoles_66 : decode b_Split_splitPoles 66 = .ok (.invokevirtual 37, 3) := by decide +kernel
theorem d_Split_splitPoles_69 : decode b_Split_splitPoles 69 = .ok (.aload_n 0, 1) := by decide +kernel
theorem d_Split_splitPoles_70 : decode b_Split_splitPoles 70 = .ok (.getfield 15, 3) := by decide +kernel
theorem d_Split_splitPoles_73 : decode b_Split_splitPoles 73 = .ok (.iload 4, 2) := by decide +kernel
theorem d_Split_splitPoles_75 : decode b_Split_splitPoles 75 = .ok (.iload 5, 2) := by decide +kernel
theorem d_Split_splitPoles_77 : decode b_Split_splitPoles 77 = .ok (.invokestatic 93, 3) := by decide +kernel
theorem d_Split_splitPoles_80 : decode b_Split_splitPoles 80 = .ok (.iaload, 1) := by decide +kernel
theorem d_Split_splitPoles_81 : decode b_Split_splitPoles 81 = .ok (.iadd, 1) := by decide +kernel
theorem d_Split_splitPoles_82 : decode b_Split_splitPoles 82 = .ok (.sipush 10007, 3) := by decide +kernel
theorem d_Split_splitPoles_85 : decode b_Split_splitPoles 85 = .ok (.irem, 1) := by decide +kernel
theorem d_Split_splitPoles_86 : decode b_Split_splitPoles 86 = .ok (.istore 6, 2) := by decide +kernel
theorem d_Split_splitPoles_88 : decode b_Split_splitPoles 88 = .ok (.iload 4, 2) := by decide +kernel
theorem d_Split_splitPoles_90 : decode b_Split_splitPoles 90 = .ok (.ifCond .le 28, 3) := by decide +kernel
theorem d_Split_splitPoles_93 : decode b_Split_splitPoles 93 = .ok (.aload_n 0, 1) := by decide +kernel
theorem d_Split_splitPoles_94 : decode b_Split_splitPoles 94 = .ok (.getfield 15, 3) := by decide +kernel
theorem d_Split_splitPoles_97 : decode b_Split_splitPoles 97 = .ok (.iload 4, 2) := by decide +kernel
theorem d_Split_splitPoles_99 : decode b_Split_splitPoles 99 = .ok (.iconst 1, 1) := by decide +kernel
theorem d_Split_splitPoles_100 : decode b_Split_splitPoles 100 = .ok (.isub, 1) := by decide +kernel
theorem d_Split_splitPoles_101 : decode b_Split_splitPoles 101 = .ok (.iload 5, 2) := by decide +kernel
theorem d_Split_splitPoles_103 : decode b_Split_splitPoles 103 = .ok (.invokestatic 93, 3) := by decide +kernel
theorem d_Split_splitPoles_106 : decode b_Split_splitPoles 106 = .ok (.iload 6, 2) := by decide +kernel
theorem d_Split_splitPoles_108 : decode b_Split_splitPoles 108 = .ok (.iload_n 3, 1) := by decide +kernel
theorem d_Split_splitPoles_109 : decode b_Split_splitPoles 109 = .ok (.imul, 1) := by decide +kernel
theorem d_Split_splitPoles_110 : decode b_Split_splitPoles 110 = .ok (.sipush 10007, 3) := by decide +kernel
theorem d_Split_splitPoles_113 : decode b_Split_splitPoles 113 = .ok (.irem, 1) := by decide +kernel
theorem d_Split_splitPoles_114 : decode b_Split_splitPoles 114 = .ok (.iastore, 1) := by decide +kernel
theorem d_Split_splitPoles_115 : decode b_Split_splitPoles 115 = .ok (.goto 17, 3) := by decide +kernel
theorem d_Split_splitPoles_118 : decode b_Split_splitPoles 118 = .ok (.aload_n 2, 1) := by decide +kernel
theorem d_Split_splitPoles_119 : decode b_Split_splitPoles 119 = .ok (.getfield 59, 3) := by decide +kernel
theorem d_Split_splitPoles_122 : decode b_Split_splitPoles 122 = .ok (.getfield 97, 3) := by decide +kernel
theorem d_Split_splitPoles_125 : decode b_Split_splitPoles 125 = .ok (.iconst 3, 1) := by decide +kernel
theorem d_Split_splitPoles_126 : decode b_Split_splitPoles 126 = .ok (.iload 5, 2) := by decide +kernel
theorem d_Split_splitPoles_128 : decode b_Split_splitPoles 128 = .ok (.isub, 1) := by decide +kernel
theorem d_Split_splitPoles_129 : decode b_Split_splitPoles 129 = .ok (.iload 6, 2) := by decide +kernel
theorem d_Split_splitPoles_131 : decode b_Split_splitPoles 131 = .ok (.iastore, 1) := by decide +kernel
theorem d_Split_splitPoles_132 : decode b_Split_splitPoles 132 = .ok (.iinc 5 1, 3) := by decide +kernel
theorem d_Split_splitPoles_135 : decode b_Split_splitPoles 135 = .ok (.goto (-81), 3) := by decide +kernel
theorem d_Split_splitPoles_138 : decode b_Split_splitPoles 138 = .ok (.iinc 4 (-1), 3) := by decide +kernel
theorem d_Split_splitPoles_141 : decode b_Split_splitPoles 141 = .ok (.goto (-102), 3) := by decide +kernel
theorem d_Split_splitPoles_144 : decode b_Split_splitPoles 144 = .ok (.aload_n 2, 1) := by decide +kernel
theorem d_Split_splitPoles_145 : decode b_Split_splitPoles 145 = .ok (.getfield 59, 3) := by decide +kernel
theorem d_Split_splitPoles_148 : decode b_Split_splitPoles 148 = .ok (.invokevirtual 100, 3) := by decide +kernel
theorem d_Split_splitPoles_151 : decode b_Split_splitPoles 151 = .ok (.aload_n 2, 1) := by decide +kernel
theorem d_Split_splitPoles_152 : decode b_Split_splitPoles 152 = .ok (.invokevirtual 103, 3) := by decide +kernel
theorem d_Split_splitPoles_155 : decode b_Split_splitPoles 155 = .ok (.return_, 1) := by decide +kernel
theorem d_Split_expandAt_0 : decode b_Split_expandAt 0 = .ok (.aload_n 0, 1) := by decide +kernel
theorem d_Split_expandAt_1 : decode b_Split_expandAt 1 = .ok (.getfield 23, 3) := by decide +kernel
theorem d_Split_expandAt_4 : decode b_Split_expandAt 4 = .ok (.aload_n 1, 1) := by decide +kernel
theorem d_Split_expandAt_5 : decode b_Split_expandAt 5 = .ok (.getfield 59, 3) := by decide +kernel
theorem d_Split_expandAt_8 : decode b_Split_expandAt 8 = .ok (.invokevirtual 62, 3) := by decide +kernel
theorem d_Split_expandAt_11 : decode b_Split_expandAt 11 = .ok (.iconst 0, 1) := by decide +kernel
theorem d_Split_expandAt_12 : decode b_Split_expandAt 12 = .ok (.istore_n 3, 1) := by decide +kernel
theorem d_Split_expandAt_13 : decode b_Split_expandAt 13 = .ok (.iload_n 3, 1) := by decide +kernel
theorem d_Split_expandAt_14 : decode b_Split_expandAt 14 = .ok (.iconst 3, 1) := by decide +kernel
theorem d_Split_expandAt_15 : decode b_Split_expandAt 15 = .ok (.if_icmp .ge 23, 3) := by decide +kernel
theorem d_Split_expandAt_18 : decode b_Split_expandAt 18 = .ok (.aload_n 0, 1) := by decide +kernel
theorem d_Split_expandAt_19 : decode b_Split_expandAt 19 = .ok (.getfield 9, 3) := by decide +kernel
theorem d_Split_expandAt_22 : decode b_Split_expandAt 22 = .ok (.iload_n 3, 1) := by decide +kernel
theorem d_Split_expandAt_23 : decode b_Split_expandAt 23 = .ok (.aload_n 0, 1) := by decide +kernel
theorem d_Split_expandAt_24 : decode b_Split_expandAt 24 = .ok (.getfield 23, 3) := by decide +kernel
theorem d_Split_expandAt_27 : decode b_Split_expandAt 27 = .ok (.iload_n 2, 1) := by decide +kernel
theorem d_Split_expandAt_28 : decode b_Split_expandAt 28 = .ok (.invokevirtual 66, 3) := by decide +kernel
theorem d_Split_expandAt_31 : decode b_Split_expandAt 31 = .ok (.iastore, 1) := by decide +kernel
theorem d_Split_expandAt_32 : decode b_Split_expandAt 32 = .ok (.iinc 3 1, 3) := by decide +kernel
theorem d_Split_expandAt_35 : decode b_Split_expandAt 35 = .ok (.goto (-22), 3) := by decide +kernel
theorem d_Split_expandAt_38 : decode b_Split_expandAt 38 = .ok (.iconst 0, 1) := by decide +kernel
theorem d_Split_expandAt_39 : decode b_Split_expandAt 39 = .ok (.istore_n 3, 1) := by decide +kernel
theorem d_Split_expandAt_40 : decode b_Split_expandAt 40 = .ok (.iload_n 3, 1) := by decide +kernel
theorem d_Split_expandAt_41 : decode b_Split_expandAt 41 = .ok (.bipush 8, 2) := by decide +kernel
theorem d_Split_expandAt_43 : decode b_Split_expandAt 43 = .ok (.if_icmp .ge 44, 3) := by decide +kernel
theorem d_Split_expandAt_46 : decode b_Split_expandAt 46 = .ok (.iconst 0, 1) := by decide +kernel
theorem d_Split_expandAt_47 : decode b_Split_expandAt 47 = .ok (.istore 4, 2) := by decide +kernel
theorem d_Split_expandAt_49 : decode b_Split_expandAt 49 = .ok (.iload_n 3, 1) := by decide +kernel
theorem d_Split_expandAt_50 : decode b_Split_expandAt 50 = .ok (.iload_n 2, 1) := by decide +kernel
theorem d_Split_expandAt_51 : decode b_Split_expandAt 51 = .ok (.if_icmp .eq 30, 3) := by decide +kernel
theorem d_Split_expandAt_54 : decode b_Split_expandAt 54 = .ok (.iload 4, 2) := by decide +kernel
theorem d_Split_expandAt_56 : decode b_Split_expandAt 56 = .ok (.aload_n 1, 1) := by decide +kernel
theorem d_Split_expandAt_57 : decode b_Split_expandAt 57 = .ok (.getfield 70, 3) := by decide +kernel
theorem d_Split_expandAt_60 : decode b_Split_expandAt 60 = .ok (.iload_n 3, 1) := by decide +kernel
theorem d_Split_expandAt_61 : decode b_Split_expandAt 61 = .ok (.iaload, 1) := by decide +kernel
theorem d_Split_expandAt_62 : decode b_Split_expandAt 62 = .ok (.if_icmp .ge 19, 3) := by decide +kernel
theorem d_Split_expandAt_65 : decode b_Split_expandAt 65 = .ok (.aload_n 0, 1) := by decide +kernel
theorem d_Split_expandAt_66 : decode b_Split_expandAt 66 = .ok (.iload_n 3, 1) := by decide +kernel
theorem d_Split_expandAt_67 : decode b_Split_expandAt 67 = .ok (.iload_n 2, 1) := by decide +kernel
theorem d_Split_expandAt_68 : decode b_Split_expandAt 68 = .ok (.isub, 1) := by decide +kernel
theorem d_Split_expandAt_69 : decode b_Split_expandAt 69 = .ok (.invokestatic 73, 3) := by decide +kernel
theorem d_Split_expandAt_72 : decode b_Split_expandAt 72 = .ok (.invokevirtual 78, 3) := by decide +kernel
theorem d_Split_expandAt_75 : decode b_Split_expandAt 75 = .ok (.iinc 4 1, 3) := by decide +kernel
theorem d_Split_expandAt_78 : decode b_Split_expandAt 78 = .ok (.goto (-29), 3) := by decide +kernel
theorem d_Split_expandAt_81 : decode b_Split_expandAt 81 = .ok (.iinc 3 1, 3) := by decide +kernel
theorem d_Split_expandAt_84 : decode b_Split_expandAt 84 = .ok (.goto (-44), 3) := by decide +kernel
theorem d_Split_expandAt_87 : decode b_Split_expandAt 87 = .ok (.return_, 1) := by decide +kernel
theorem d_Split_divideSeries_0 : decode b_Split_divideSeries 0 = .ok (.iload_n 1, 1) := by decide +kernel
theorem d_Split_divideSeries_1 : decode b_Split_divideSeries 1 = .ok (.invokestatic 81, 3) := by decide +kernel
theorem d_Split_divideSeries_4 : decode b_Split_divideSeries 4 = .ok (.istore_n 2, 1) := by decide +kernel
theorem d_Split_divideSeries_5 : decode b_Split_divideSeries 5 = .ok (.iconst 0, 1) := by decide +kernel
theorem d_Split_divideSeries_6 : decode b_Split_divideSeries 6 = .ok (.istore_n 3, 1) := by decide +kernel
theorem d_Split_divideSeries_7 : decode b_Split_divideSeries 7 = .ok (.iconst 0, 1) := by decide +kernel
theorem d_Split_divideSeries_8 : decode b_Split_divideSeries 8 = .ok (.istore 4, 2) := by decide +kernel
theorem d_Split_divideSeries_10 : decode b_Split_divideSeries 10 = .ok (.iload 4, 2) := by decide +kernel
theorem d_Split_divideSeries_12 : decode b_Split_divideSeries 12 = .ok (.iconst 3, 1) := by decide +kernel
theorem d_Split_divideSeries_13 : decode b_Split_divideSeries 13 = .ok (.if_icmp .ge 42, 3) := by decide +kernel
theorem d_Split_divideSeries_16 : decode b_Split_divideSeries 16 = .ok (.aload_n 0, 1) := by decide +kernel
theorem d_Split_divideSeries_17 : decode b_Split_divideSeries 17 = .ok (.getfield 9, 3) := by decide +kernel
theorem d_Split_divideSeries_20 : decode b_Split_divideSeries 20 = .ok (.iload 4, 2) := by decide +kernel
theorem d_Split_divideSeries_22 : decode b_Split_divideSeries 22 = .ok (.aload_n 0, 1) := by decide +kernel
theorem d_Split_divideSeries_23 : decode b_Split_divideSeries 23 = .ok (.getfield 9, 3) := by decide +kernel
theorem d_Split_divideSeries_26 : decode b_Split_divideSeries 26 = .ok (.iload 4, 2) := by decide +kernel
theorem d_Split_divideSeries_28 : decode b_Split_divideSeries 28 = .ok (.iaload, 1) := by decide +kernel
theorem d_Split_divideSeries_29 : decode b_Split_divideSeries 29 = .ok (.iload_n 3, 1) := by decide +kernel
theorem d_Split_divideSeries_30 : decode b_Split_divideSeries 30 = .ok (.isub, 1) := by decide +kernel
theorem d_Split_divideSeries_31 : decode b_Split_divideSeries 31 = .ok (.invokestatic 73, 3) := by decide +kernel
theorem d_Split_divideSeries_34 : decode b_Split_divideSeries 34 = .ok (.iload_n 2, 1) := by decide +kernel
theorem d_Split_divideSeries_35 : decode b_Split_divideSeries 35 = .ok (.imul, 1) := by decide +kernel
theorem d_Split_divideSeries_36 : decode b_Split_divideSeries 36 = .ok (.sipush 10007, 3) := by decide +kernel
theorem d_Split_divideSeries_39 : decode b_Split_divideSeries 39 = .ok (.irem, 1) := by decide +kernel
theorem d_Split_divideSeries_40 : decode b_Split_divideSeries 40 = .ok (.iastore, 1) := by decide +kernel
theorem d_Split_divideSeries_41 : decode b_Split_divideSeries 41 = .ok (.aload_n 0, 1) := by decide +kernel
theorem d_Split_divideSeries_42 : decode b_Split_divideSeries 42 = .ok (.getfield 9, 3) := by decide +kernel
theorem d_Split_divideSeries_45 : decode b_Split_divideSeries 45 = .ok (.iload 4, 2) := by decide +kernel
theorem d_Split_divideSeries_47 : decode b_Split_divideSeries 47 = .ok (.iaload, 1) := by decide +kernel
theorem d_Split_divideSeries_48 : decode b_Split_divideSeries 48 = .ok (.istore_n 3, 1) := by decide +kernel
theorem d_Split_divideSeries_49 : decode b_Split_divideSeries 49 = .ok (.iinc 4 1, 3) := by decide +kernel
theorem d_Split_divideSeries_52 : decode b_Split_divideSeries 52 = .ok (.goto (-42), 3) := by decide +kernel
theorem d_Split_divideSeries_55 : decode b_Split_divideSeries 55 = .ok (.return_, 1) := by decide +kernel
theorem d_Split_expandedWeight_0 : decode b_Split_expandedWeight 0 = .ok (.aload_n 1, 1) := by decide +kernel
theorem d_Split_expandedWeight_1 : decode b_Split_expandedWeight 1 = .ok (.getfield 70, 3) := by decide +kernel
theorem d_Split_expandedWeight_4 : decode b_Split_expandedWeight 4 = .ok (.iload_n 2, 1) := by decide +kernel
theorem d_Split_expandedWeight_5 : decode b_Split_expandedWeight 5 = .ok (.iaload, 1) := by decide +kernel
theorem d_Split_expandedWeight_6 : decode b_Split_expandedWeight 6 = .ok (.iload_n 3, 1) := by decide +kernel
theorem d_Split_expandedWeight_7 : decode b_Split_expandedWeight 7 = .ok (.isub, 1) := by decide +kernel
theorem d_Split_expandedWeight_8 : decode b_Split_expandedWeight 8 = .ok (.istore 4, 2) := by decide +kernel
theorem d_Split_expandedWeight_10 : decode b_Split_expandedWeight 10 = .ok (.iload 4, 2) := by decide +kernel
theorem d_Split_expandedWeight_12 : decode b_Split_expandedWeight 12 = .ok (.ifCond .lt 19, 3) := by decide +kernel
theorem d_Split_expandedWeight_15 : decode b_Split_expandedWeight 15 = .ok (.iload 4, 2) := by decide +kernel
theorem d_Split_expandedWeight_17 : decode b_Split_expandedWeight 17 = .ok (.iconst 3, 1) := by decide +kernel
theorem d_Split_expandedWeight_18 : decode b_Split_expandedWeight 18 = .ok (.if_icmp .ge 13, 3) := by decide +kernel
theorem d_Split_expandedWeight_21 : decode b_Split_expandedWeight 21 = .ok (.aload_n 0, 1) := by decide +kernel
theorem d_Split_expandedWeight_22 : decode b_Split_expandedWeight 22 = .ok (.getfield 9, 3) := by decide +kernel
theorem d_Split_expandedWeight_25 : decode b_Split_expandedWeight 25 = .ok (.iload 4, 2) := by decide +kernel
theorem d_Split_expandedWeight_27 : decode b_Split_expandedWeight 27 = .ok (.iaload, 1) := by decide +kernel
theorem d_Split_expandedWeight_28 : decode b_Split_expandedWeight 28 = .ok (.goto 4, 3) := by decide +kernel
theorem d_Split_expandedWeight_31 : decode b_Split_expandedWeight 31 = .ok (.iconst 0, 1) := by decide +kernel
theorem d_Split_expandedWeight_32 : decode b_Split_expandedWeight 32 = .ok (.ireturn, 1) := by decide +kernel
theorem d_Split_partIndex_0 : decode b_Split_partIndex 0 = .ok (.iload_n 0, 1) := by decide +kernel
theorem d_Split_partIndex_1 : decode b_Split_partIndex 1 = .ok (.iconst 3, 1) := by decide +kernel
theorem d_Split_partIndex_2 : decode b_Split_partIndex 2 = .ok (.imul, 1) := by decide +kernel
theorem d_Split_partIndex_3 : decode b_Split_partIndex 3 = .ok (.iload_n 1, 1) := by decide +kernel
theorem d_Split_partIndex_4 : decode b_Split_partIndex 4 = .ok (.iadd, 1) := by decide +kernel
theorem d_Split_partIndex_5 : decode b_Split_partIndex 5 = .ok (.iconst 1, 1) := by decide +kernel
theorem d_Split_partIndex_6 : decode b_Split_partIndex 6 = .ok (.isub, 1) := by decide +kernel
theorem d_Split_partIndex_7 : decode b_Split_partIndex 7 = .ok (.ireturn, 1) := by decide +kernel
theorem d_Split_splitWhole_0 : decode b_Split_splitWhole 0 = .ok (.aload_n 0, 1) := by decide +kernel
theorem d_Split_splitWhole_1 : decode b_Split_splitWhole 1 = .ok (.getfield 23, 3) := by decide +kernel
theorem d_Split_splitWhole_4 : decode b_Split_splitWhole 4 = .ok (.aload_n 1, 1) := by decide +kernel
theorem d_Split_splitWhole_5 : decode b_Split_splitWhole 5 = .ok (.getfield 59, 3) := by decide +kernel
theorem d_Split_splitWhole_8 : decode b_Split_splitWhole 8 = .ok (.invokevirtual 62, 3) := by decide +kernel
theorem d_Split_splitWhole_11 : decode b_Split_splitWhole 11 = .ok (.iconst 0, 1) := by decide +kernel
theorem d_Split_splitWhole_12 : decode b_Split_splitWhole 12 = .ok (.istore_n 2, 1) := by decide +kernel
theorem d_Split_splitWhole_13 : decode b_Split_splitWhole 13 = .ok (.iload_n 2, 1) := by decide +kernel
theorem d_Split_splitWhole_14 : decode b_Split_splitWhole 14 = .ok (.bipush 8, 2) := by decide +kernel
theorem d_Split_splitWhole_16 : decode b_Split_splitWhole 16 = .ok (.if_icmp .ge 36, 3) := by decide +kernel
theorem d_Split_splitWhole_19 : decode b_Split_splitWhole 19 = .ok (.iconst 0, 1) := by decide +kernel
theorem d_Split_splitWhole_20 : decode b_Split_splitWhole 20 = .ok (.istore_n 3, 1) := by decide +kernel
theorem d_Split_splitWhole_21 : decode b_Split_splitWhole 21 = .ok (.iload_n 3, 1) := by decide +kernel
theorem d_Split_splitWhole_22 : decode b_Split_splitWhole 22 = .ok (.aload_n 1, 1) := by decide +kernel
theorem d_Split_splitWhole_23 : decode b_Split_splitWhole 23 = .ok (.getfield 70, 3) := by decide +kernel
theorem d_Split_splitWhole_26 : decode b_Split_splitWhole 26 = .ok (.iload_n 2, 1) := by decide +kernel
theorem d_Split_splitWhole_27 : decode b_Split_splitWhole 27 = .ok (.iaload, 1) := by decide +kernel
theorem d_Split_splitWhole_28 : decode b_Split_splitWhole 28 = .ok (.if_icmp .ge 18, 3) := by decide +kernel
theorem d_Split_splitWhole_31 : decode b_Split_splitWhole 31 = .ok (.aload_n 0, 1) := by decide +kernel
theorem d_Split_splitWhole_32 : decode b_Split_splitWhole 32 = .ok (.getfield 23, 3) := by decide +kernel
theorem d_Split_splitWhole_35 : decode b_Split_splitWhole 35 = .ok (.iload_n 2, 1) := by decide +kernel
theorem d_Split_splitWhole_36 : decode b_Split_splitWhole 36 = .ok (.invokevirtual 66, 3) := by decide +kernel
theorem d_Split_splitWhole_39 : decode b_Split_splitWhole 39 = .ok (.pop, 1) := by decide +kernel
theorem d_Split_splitWhole_40 : decode b_Split_splitWhole 40 = .ok (.iinc 3 1, 3) := by decide +kernel
theorem d_Split_splitWhole_43 : decode b_Split_splitWhole 43 = .ok (.goto (-22), 3) := by decide +kernel
theorem d_Split_splitWhole_46 : decode b_Split_splitWhole 46 = .ok (.iinc 2 1, 3) := by decide +kernel
theorem d_Split_splitWhole_49 : decode b_Split_splitWhole 49 = .ok (.goto (-36), 3) := by decide +kernel
theorem d_Split_splitWhole_52 : decode b_Split_splitWhole 52 = .ok (.aload_n 0, 1) := by decide +kernel
theorem d_Split_splitWhole_53 : decode b_Split_splitWhole 53 = .ok (.getfield 30, 3) := by decide +kernel
theorem d_Split_splitWhole_56 : decode b_Split_splitWhole 56 = .ok (.invokevirtual 106, 3) := by decide +kernel
theorem d_Split_splitWhole_59 : decode b_Split_splitWhole 59 = .ok (.aload_n 0, 1) := by decide +kernel
theorem d_Split_splitWhole_60 : decode b_Split_splitWhole 60 = .ok (.getfield 23, 3) := by decide +kernel
theorem d_Split_splitWhole_63 : decode b_Split_splitWhole 63 = .ok (.getfield 107, 3) := by decide +kernel
theorem d_Split_splitWhole_66 : decode b_Split_splitWhole 66 = .ok (.istore_n 2, 1) := by decide +kernel
theorem d_Split_splitWhole_67 : decode b_Split_splitWhole 67 = .ok (.iload_n 2, 1) := by decide +kernel
theorem d_Split_splitWhole_68 : decode b_Split_splitWhole 68 = .ok (.ifCond .lt 106, 3) := by decide +kernel
theorem d_Split_splitWhole_71 : decode b_Split_splitWhole 71 = .ok (.aload_n 1, 1) := by decide +kernel
theorem d_Split_splitWhole_72 : decode b_Split_splitWhole 72 = .ok (.getfield 49, 3) := by decide +kernel
theorem d_Split_splitWhole_75 : decode b_Split_splitWhole 75 = .ok (.iconst 1, 1) := by decide +kernel
theorem d_Split_splitWhole_76 : decode b_Split_splitWhole 76 = .ok (.if_icmp .ne 9, 3) := by decide +kernel
theorem d_Split_splitWhole_79 : decode b_Split_splitWhole 79 = .ok (.iload_n 2, 1) := by decide +kernel
theorem d_Split_splitWhole_80 : decode b_Split_splitWhole 80 = .ok (.iconst 1, 1) := by decide +kernel
theorem d_Split_splitWhole_81 : decode b_Split_splitWhole 81 = .ok (.iadd, 1) := by decide +kernel
theorem d_Split_splitWhole_82 : decode b_Split_splitWhole 82 = .ok (.goto 4, 3) := by decide +kernel
theorem d_Split_splitWhole_85 : decode b_Split_splitWhole 85 = .ok (.iload_n 2, 1) := by decide +kernel
theorem d_Split_splitWhole_86 : decode b_Split_splitWhole 86 = .ok (.istore_n 3, 1) := by decide +kernel
theorem d_Split_splitWhole_87 : decode b_Split_splitWhole 87 = .ok (.aload_n 1, 1) := by decide +kernel
theorem d_Split_splitWhole_88 : decode b_Split_splitWhole 88 = .ok (.getfield 49, 3) := by decide +kernel
theorem d_Split_splitWhole_91 : decode b_Split_splitWhole 91 = .ok (.iconst 1, 1) := by decide +kernel
theorem d_Split_splitWhole_92 : decode b_Split_splitWhole 92 = .ok (.if_icmp .ne 7, 3) := by decide +kernel
theorem d_Split_splitWhole_95 : decode b_Split_splitWhole 95 = .ok (.iload_n 3, 1) := by decide +kernel
theorem d_Split_splitWhole_96 : decode b_Split_splitWhole 96 = .ok (.goto 9, 3) := by decide +kernel
theorem d_Split_splitWhole_99 : decode b_Split_splitWhole 99 = .ok (.aload_n 1, 1) := by decide +kernel
theorem d_Split_splitWhole_100 : decode b_Split_splitWhole 100 = .ok (.getfield 49, 3) := by decide +kernel
theorem d_Split_splitWhole_103 : decode b_Split_splitWhole 103 = .ok (.iconst 1, 1) := by decide +kernel
theorem d_Split_splitWhole_104 : decode b_Split_splitWhole 104 = .ok (.isub, 1) := by decide +kernel
theorem d_Split_splitWhole_105 : decode b_Split_splitWhole 105 = .ok (.istore 4, 2) := by decide +kernel
theorem d_Split_splitWhole_107 : decode b_Split_splitWhole 107 = .ok (.aload_n 0, 1) := by decide +kernel
theorem d_Split_splitWhole_108 : decode b_Split_splitWhole 108 = .ok (.getfield 30, 3) := by decide +kernel
theorem d_Split_splitWhole_111 : decode b_Split_splitWhole 111 = .ok (.getfield 97, 3) := by decide +kernel
theorem d_Split_splitWhole_114 : decode b_Split_splitWhole 114 = .ok (.iload_n 3, 1) := by decide +kernel
theorem d_Split_splitWhole_115 : decode b_Split_splitWhole 115 = .ok (.aload_n 0, 1) := by decide +kernel
theorem d_Split_splitWhole_116 : decode b_Split_splitWhole 116 = .ok (.getfield 23, 3) := by decide +kernel
theorem d_Split_splitWhole_119 : decode b_Split_splitWhole 119 = .ok (.getfield 97, 3) := by decide +kernel
theorem d_Split_splitWhole_122 : decode b_Split_splitWhole 122 = .ok (.iload_n 2, 1) := by decide +kernel
theorem d_Split_splitWhole_123 : decode b_Split_splitWhole 123 = .ok (.iaload, 1) := by decide +kernel
theorem d_Split_splitWhole_124 : decode b_Split_splitWhole 124 = .ok (.iload 4, 2) := by decide +kernel
theorem d_Split_splitWhole_126 : decode b_Split_splitWhole 126 = .ok (.invokestatic 81, 3) := by decide +kernel
theorem d_Split_splitWhole_129 : decode b_Split_splitWhole 129 = .ok (.imul, 1) := by decide +kernel
theorem d_Split_splitWhole_130 : decode b_Split_splitWhole 130 = .ok (.sipush 10007, 3) := by decide +kernel
theorem d_Split_splitWhole_133 : decode b_Split_splitWhole 133 = .ok (.irem, 1) := by decide +kernel
theorem d_Split_splitWhole_134 : decode b_Split_splitWhole 134 = .ok (.iastore, 1) := by decide +kernel
theorem d_Split_splitWhole_135 : decode b_Split_splitWhole 135 = .ok (.aload_n 0, 1) := by decide +kernel
theorem d_Split_splitWhole_136 : decode b_Split_splitWhole 136 = .ok (.aload_n 1, 1) := by decide +kernel
theorem d_Split_splitWhole_137 : decode b_Split_splitWhole 137 = .ok (.getfield 49, 3) := by decide +kernel
theorem d_Split_splitWhole_140 : decode b_Split_splitWhole 140 = .ok (.iload_n 3, 1) := by decide +kernel
theorem d_Split_splitWhole_141 : decode b_Split_splitWhole 141 = .ok (.invokevirtual 110, 3) := by decide +kernel
theorem d_Split_splitWhole_144 : decode b_Split_splitWhole 144 = .ok (.aload_n 0, 1) := by decide +kernel
theorem d_Split_splitWhole_145 : decode b_Split_splitWhole 145 = .ok (.getfield 23, 3) := by decide +kernel
theorem d_Split_splitWhole_148 : decode b_Split_splitWhole 148 = .ok (.aload_n 0, 1) := by decide +kernel
theorem d_Split_splitWhole_149 : decode b_Split_splitWhole 149 = .ok (.getfield 27, 3) := by decide +kernel
theorem d_Split_splitWhole_152 : decode b_Split_splitWhole 152 = .ok (.aload_n 0, 1) := by decide +kernel
theorem d_Split_splitWhole_153 : decode b_Split_splitWhole 153 = .ok (.getfield 30, 3) := by decide +kernel
theorem d_Split_splitWhole_156 : decode b_Split_splitWhole 156 = .ok (.getfield 97, 3) := by decide +kernel
theorem d_Split_splitWhole_159 : decode b_Split_splitWhole 159 = .ok (.iload_n 3, 1) := by decide +kernel
theorem d_Split_splitWhole_160 : decode b_Split_splitWhole 160 = .ok (.iaload, 1) := by decide +kernel
theorem d_Split_splitWhole_161 : decode b_Split_splitWhole 161 = .ok (.ineg, 1) := by decide +kernel
theorem d_Split_splitWhole_162 : decode b_Split_splitWhole 162 = .ok (.invokestatic 73, 3) := by decide +kernel
theorem d_Split_splitWhole_165 : decode b_Split_splitWhole 165 = .ok (.invokevirtual 114, 3) := by decide +kernel
theorem d_Split_splitWhole_168 : decode b_Split_splitWhole 168 = .ok (.iinc 2 (-1), 3) := by decide +kernel
theorem d_Split_splitWhole_171 : decode b_Split_splitWhole 171 = .ok (.goto (-104), 3) := by decide +kernel
theorem d_Split_splitWhole_174 : decode b_Split_splitWhole 174 = .ok (.aload_n 0, 1) := by decide +kernel
theorem d_Split_splitWhole_175 : decode b_Split_splitWhole 175 = .ok (.getfield 30, 3) := by decide +kernel
theorem d_Split_splitWhole_178 : decode b_Split_splitWhole 178 = .ok (.invokevirtual 100, 3) := by decide +kernel
theorem d_Split_splitWhole_181 : decode b_Split_splitWhole 181 = .ok (.return_, 1) := by decide +kernel
theorem d_Split_setDifferenceOfPower_0 : decode b_Split_setDifferenceOfPower 0 = .ok (.aload_n 0, 1) := by decide +kernel
theorem d_Split_setDifferenceOfPower_1 : decode b_Split_setDifferenceOfPower 1 = .ok (.getfield 27, 3) := by decide +kernel
theorem d_Split_setDifferenceOfPower_4 : decode b_Split_setDifferenceOfPower 4 = .ok (.iconst 0, 1) := by decide +kernel
theorem d_Split_setDifferenceOfPower_5 : decode b_Split_setDifferenceOfPower 5 = .ok (.iload_n 1, 1) := by decide +kernel
theorem d_Split_setDifferenceOfPower_6 : decode b_Split_setDifferenceOfPower 6 = .ok (.invokevirtual 118, 3) := by decide +kernel
theorem d_Split_setDifferenceOfPower_9 : decode b_Split_setDifferenceOfPower 9 = .ok (.aload_n 0, 1) := by decide +kernel
theorem d_Split_setDifferenceOfPower_10 : decode b_Split_setDifferenceOfPower 10 = .ok (.getfield 27, 3) := by decide +kernel
theorem d_Split_setDifferenceOfPower_13 : decode b_Split_setDifferenceOfPower 13 = .ok (.iconst 1, 1) := by decide +kernel
theorem d_Split_setDifferenceOfPower_14 : decode b_Split_setDifferenceOfPower 14 = .ok (.iload_n 2, 1) := by decide +kernel
theorem d_Split_setDifferenceOfPower_15 : decode b_Split_setDifferenceOfPower 15 = .ok (.invokevirtual 121, 3) := by decide +kernel
theorem d_Split_setDifferenceOfPower_18 : decode b_Split_setDifferenceOfPower 18 = .ok (.aload_n 0, 1) := by decide +kernel
theorem d_Split_setDifferenceOfPower_19 : decode b_Split_setDifferenceOfPower 19 = .ok (.getfield 27, 3) := by decide +kernel
theorem d_Split_setDifferenceOfPower_22 : decode b_Split_setDifferenceOfPower 22 = .ok (.getfield 97, 3) := by decide +kernel
theorem d_Split_setDifferenceOfPower_25 : decode b_Split_setDifferenceOfPower 25 = .ok (.iload_n 2, 1) := by decide +kernel
theorem d_Split_setDifferenceOfPower_26 : decode b_Split_setDifferenceOfPower 26 = .ok (.aload_n 0, 1) := by decide +kernel
theorem d_Split_setDifferenceOfPower_27 : decode b_Split_setDifferenceOfPower 27 = .ok (.getfield 27, 3) := by decide +kernel
theorem d_Split_setDifferenceOfPower_30 : decode b_Split_setDifferenceOfPower 30 = .ok (.getfield 97, 3) := by decide +kernel
theorem d_Split_setDifferenceOfPower_33 : decode b_Split_setDifferenceOfPower 33 = .ok (.iload_n 2, 1) := by decide +kernel
theorem d_Split_setDifferenceOfPower_34 : decode b_Split_setDifferenceOfPower 34 = .ok (.iaload, 1) := by decide +kernel
theorem d_Split_setDifferenceOfPower_35 : decode b_Split_setDifferenceOfPower 35 = .ok (.iconst 1, 1) := by decide +kernel
theorem d_Split_setDifferenceOfPower_36 : decode b_Split_setDifferenceOfPower 36 = .ok (.isub, 1) := by decide +kernel
theorem d_Split_setDifferenceOfPower_37 : decode b_Split_setDifferenceOfPower 37 = .ok (.invokestatic 73, 3) := by decide +kernel
theorem d_Split_setDifferenceOfPower_40 : decode b_Split_setDifferenceOfPower 40 = .ok (.iastore, 1) := by decide +kernel
theorem d_Split_setDifferenceOfPower_41 : decode b_Split_setDifferenceOfPower 41 = .ok (.aload_n 0, 1) := by decide +kernel
theorem d_Split_setDifferenceOfPower_42 : decode b_Split_setDifferenceOfPower 42 = .ok (.getfield 27, 3) := by decide +kernel
theorem d_Split_setDifferenceOfPower_45 : decode b_Split_setDifferenceOfPower 45 = .ok (.invokevirtual 100, 3) := by decide +kernel
theorem d_Split_setDifferenceOfPower_48 : decode b_Split_setDifferenceOfPower 48 = .ok (.return_, 1) := by decide +kernel
theorem d_Split_gather_0 : decode b_Split_gather 0 = .ok (.aload_n 2, 1) := by decide +kernel
theorem d_Split_gather_1 : decode b_Split_gather 1 = .ok (.invokevirtual 84, 3) := by decide +kernel
theorem d_Split_gather_4 : decode b_Split_gather 4 = .ok (.aload_n 2, 1) := by decide +kernel
theorem d_Split_gather_5 : decode b_Split_gather 5 = .ok (.iload_n 1, 1) := by decide +kernel
theorem d_Split_gather_6 : decode b_Split_gather 6 = .ok (.putfield 49, 3) := by decide +kernel
theorem d_Split_gather_9 : decode b_Split_gather 9 = .ok (.iconst 0, 1) := by decide +kernel
theorem d_Split_gather_10 : decode b_Split_gather 10 = .ok (.istore_n 3, 1) := by decide +kernel
theorem d_Split_gather_11 : decode b_Split_gather 11 = .ok (.iload_n 3, 1) := by decide +kernel
theorem d_Split_gather_12 : decode b_Split_gather 12 = .ok (.bipush 8, 2) := by decide +kernel
theorem d_Split_gather_14 : decode b_Split_gather 14 = .ok (.if_icmp .ge 46, 3) := by decide +kernel
theorem d_Split_gather_17 : decode b_Split_gather 17 = .ok (.iconst 1, 1) := by decide +kernel
theorem d_Split_gather_18 : decode b_Split_gather 18 = .ok (.istore 4, 2) := by decide +kernel
theorem d_Split_gather_20 : decode b_Split_gather 20 = .ok (.iload 4, 2) := by decide +kernel
theorem d_Split_gather_22 : decode b_Split_gather 22 = .ok (.iconst 3, 1) := by decide +kernel
theorem d_Split_gather_23 : decode b_Split_gather 23 = .ok (.if_icmp .gt 31, 3) := by decide +kernel
theorem d_Split_gather_26 : decode b_Split_gather 26 = .ok (.aload_n 0, 1) := by decide +kernel
theorem d_Split_gather_27 : decode b_Split_gather 27 = .ok (.getfield 15, 3) := by decide +kernel
theorem d_Split_gather_30 : decode b_Split_gather 30 = .ok (.iload_n 3, 1) := by decide +kernel
theorem d_Split_gather_31 : decode b_Split_gather 31 = .ok (.iload 4, 2) := by decide +kernel
theorem d_Split_gather_33 : decode b_Split_gather 33 = .ok (.invokestatic 93, 3) := by decide +kernel
theorem d_Split_gather_36 : decode b_Split_gather 36 = .ok (.iaload, 1) := by decide +kernel
theorem d_Split_gather_37 : decode b_Split_gather 37 = .ok (.ifCond .eq 11, 3) := by decide +kernel
theorem d_Split_gather_40 : decode b_Split_gather 40 = .ok (.aload_n 2, 1) := by decide +kernel
theorem d_Split_gather_41 : decode b_Split_gather 41 = .ok (.getfield 70, 3) := by decide +kernel
theorem d_Split_gather_44 : decode b_Split_gather 44 = .ok (.iload_n 3, 1) := by decide +kernel
theorem d_Split_gather_45 : decode b_Split_gather 45 = .ok (.iload 4, 2) := by decide +kernel
theorem d_Split_gather_47 : decode b_Split_gather 47 = .ok (.iastore, 1) := by decide +kernel
theorem d_Split_gather_48 : decode b_Split_gather 48 = .ok (.iinc 4 1, 3) := by decide +kernel
theorem d_Split_gather_51 : decode b_Split_gather 51 = .ok (.goto (-31), 3) := by decide +kernel
theorem d_Split_gather_54 : decode b_Split_gather 54 = .ok (.iinc 3 1, 3) := by decide +kernel
theorem d_Split_gather_57 : decode b_Split_gather 57 = .ok (.goto (-46), 3) := by decide +kernel
theorem d_Split_gather_60 : decode b_Split_gather 60 = .ok (.aload_n 2, 1) := by decide +kernel
theorem d_Split_gather_61 : decode b_Split_gather 61 = .ok (.getfield 59, 3) := by decide +kernel
theorem d_Split_gather_64 : decode b_Split_gather 64 = .ok (.aload_n 0, 1) := by decide +kernel
theorem d_Split_gather_65 : decode b_Split_gather 65 = .ok (.getfield 30, 3) := by decide +kernel
theorem d_Split_gather_68 : decode b_Split_gather 68 = .ok (.invokevirtual 62, 3) := by decide +kernel
theorem d_Split_gather_71 : decode b_Split_gather 71 = .ok (.aload_n 2, 1) := by decide +kernel
theorem d_Split_gather_72 : decode b_Split_gather 72 = .ok (.getfield 59, 3) := by decide +kernel
theorem d_Split_gather_75 : decode b_Split_gather 75 = .ok (.aload_n 2, 1) := by decide +kernel
theorem d_Split_gather_76 : decode b_Split_gather 76 = .ok (.getfield 70, 3) := by decide +kernel
theorem d_Split_gather_79 : decode b_Split_gather 79 = .ok (.iconst 0, 1) := by decide +kernel
theorem d_Split_gather_80 : decode b_Split_gather 80 = .ok (.iconst 0, 1) := by decide +kernel
theorem d_Split_gather_81 : decode b_Split_gather 81 = .ok (.invokestatic 124, 3) := by decide +kernel
theorem d_Split_gather_84 : decode b_Split_gather 84 = .ok (.iconst 0, 1) := by decide +kernel
theorem d_Split_gather_85 : decode b_Split_gather 85 = .ok (.istore_n 3, 1) := by decide +kernel
theorem d_Split_gather_86 : decode b_Split_gather 86 = .ok (.iload_n 3, 1) := by decide +kernel
theorem d_Split_gather_87 : decode b_Split_gather 87 = .ok (.bipush 8, 2) := by decide +kernel
theorem d_Split_gather_89 : decode b_Split_gather 89 = .ok (.if_icmp .ge 74, 3) := by decide +kernel
theorem d_Split_gather_92 : decode b_Split_gather 92 = .ok (.iconst 1, 1) := by decide +kernel
theorem d_Split_gather_93 : decode b_Split_gather 93 = .ok (.istore 4, 2) := by decide +kernel
theorem d_Split_gather_95 : decode b_Split_gather 95 = .ok (.iload 4, 2) := by decide +kernel
theorem d_Split_gather_97 : decode b_Split_gather 97 = .ok (.aload_n 2, 1) := by decide +kernel
theorem d_Split_gather_98 : decode b_Split_gather 98 = .ok (.getfield 70, 3) := by decide +kernel
theorem d_Split_gather_101 : decode b_Split_gather 101 = .ok (.iload_n 3, 1) := by decide +kernel
theorem d_Split_gather_102 : decode b_Split_gather 102 = .ok (.iaload, 1) := by decide +kernel
theorem d_Split_gather_103 : decode b_Split_gather 103 = .ok (.if_icmp .gt 54, 3) := by decide +kernel
theorem d_Split_gather_106 : decode b_Split_gather 106 = .ok (.aload_n 0, 1) := by decide +kernel
theorem d_Split_gather_107 : decode b_Split_gather 107 = .ok (.getfield 27, 3) := by decide +kernel
theorem d_Split_gather_110 : decode b_Split_gather 110 = .ok (.iconst 0, 1) := by decide +kernel
theorem d_Split_gather_111 : decode b_Split_gather 111 = .ok (.aload_n 0, 1) := by decide +kernel
theorem d_Split_gather_112 : decode b_Split_gather 112 = .ok (.getfield 15, 3) := by decide +kernel
theorem d_Split_gather_115 : decode b_Split_gather 115 = .ok (.iload_n 3, 1) := by decide +kernel
theorem d_Split_gather_116 : decode b_Split_gather 116 = .ok (.iload 4, 2) := by decide +kernel
theorem d_Split_gather_118 : decode b_Split_gather 118 = .ok (.invokestatic 93, 3) := by decide +kernel
theorem d_Split_gather_121 : decode b_Split_gather 121 = .ok (.iaload, 1) := by decide +kernel
theorem d_Split_gather_122 : decode b_Split_gather 122 = .ok (.invokevirtual 118, 3) := by decide +kernel
theorem d_Split_gather_125 : decode b_Split_gather 125 = .ok (.aload_n 0, 1) := by decide +kernel
theorem d_Split_gather_126 : decode b_Split_gather 126 = .ok (.getfield 27, 3) := by decide +kernel
theorem d_Split_gather_129 : decode b_Split_gather 129 = .ok (.aload_n 2, 1) := by decide +kernel
theorem d_Split_gather_130 : decode b_Split_gather 130 = .ok (.getfield 70, 3) := by decide +kernel
theorem d_Split_gather_133 : decode b_Split_gather 133 = .ok (.iload_n 3, 1) := by decide +kernel
theorem d_Split_gather_134 : decode b_Split_gather 134 = .ok (.iload 4, 2) := by decide +kernel
theorem d_Split_gather_136 : decode b_Split_gather 136 = .ok (.invokestatic 124, 3) := by decide +kernel
theorem d_Split_gather_139 : decode b_Split_gather 139 = .ok (.aload_n 2, 1) := by decide +kernel
theorem d_Split_gather_140 : decode b_Split_gather 140 = .ok (.getfield 59, 3) := by decide +kernel
theorem d_Split_gather_143 : decode b_Split_gather 143 = .ok (.aload_n 0, 1) := by decide +kernel
theorem d_Split_gather_144 : decode b_Split_gather 144 = .ok (.getfield 27, 3) := by decide +kernel
theorem d_Split_gather_147 : decode b_Split_gather 147 = .ok (.iconst 1, 1) := by decide +kernel
theorem d_Split_gather_148 : decode b_Split_gather 148 = .ok (.invokevirtual 114, 3) := by decide +kernel
theorem d_Split_gather_151 : decode b_Split_gather 151 = .ok (.iinc 4 1, 3) := by decide +kernel
theorem d_Split_gather_154 : decode b_Split_gather 154 = .ok (.goto (-59), 3) := by decide +kernel
theorem d_Split_gather_157 : decode b_Split_gather 157 = .ok (.iinc 3 1, 3) := by decide +kernel
theorem d_Split_gather_160 : decode b_Split_gather 160 = .ok (.goto (-74), 3) := by decide +kernel
theorem d_Split_gather_163 : decode b_Split_gather 163 = .ok (.aload_n 2, 1) := by decide +kernel
theorem d_Split_gather_164 : decode b_Split_gather 164 = .ok (.invokevirtual 103, 3) := by decide +kernel
theorem d_Split_gather_167 : decode b_Split_gather 167 = .ok (.return_, 1) := by decide +kernel
theorem d_Split_multiplyByPoles_0 : decode b_Split_multiplyByPoles 0 = .ok (.iconst 0, 1) := by decide +kernel
theorem d_Split_multiplyByPoles_1 : decode b_Split_multiplyByPoles 1 = .ok (.istore 4, 2) := by decide +kernel
theorem d_Split_multiplyByPoles_3 : decode b_Split_multiplyByPoles 3 = .ok (.iload 4, 2) := by decide +kernel
theorem d_Split_multiplyByPoles_5 : decode b_Split_multiplyByPoles 5 = .ok (.bipush 8, 2) := by decide +kernel
theorem d_Split_multiplyByPoles_7 : decode b_Split_multiplyByPoles 7 = .ok (.if_icmp .ge 34, 3) := by decide +kernel
theorem d_Split_multiplyByPoles_10 : decode b_Split_multiplyByPoles 10 = .ok (.aload_n 0, 1) := by decide +kernel
theorem d_Split_multiplyByPoles_11 : decode b_Split_multiplyByPoles 11 = .ok (.iload 4, 2) := by decide +kernel
theorem d_Split_multiplyByPoles_13 : decode b_Split_multiplyByPoles 13 = .ok (.iload 4, 2) := by decide +kernel
theorem d_Split_multiplyByPoles_15 : decode b_Split_multiplyByPoles 15 = .ok (.iload_n 2, 1) := by decide +kernel
theorem d_Split_multiplyByPoles_16 : decode b_Split_multiplyByPoles 16 = .ok (.if_icmp .ne 12, 3) := by decide +kernel
theorem d_Split_multiplyByPoles_19 : decode b_Split_multiplyByPoles 19 = .ok (.aload_n 1, 1) := by decide +kernel
theorem d_Split_multiplyByPoles_20 : decode b_Split_multiplyByPoles 20 = .ok (.iload 4, 2) := by decide +kernel
theorem d_Split_multiplyByPoles_22 : decode b_Split_multiplyByPoles 22 = .ok (.iaload, 1) := by decide +kernel
theorem d_Split_multiplyByPoles_23 : decode b_Split_multiplyByPoles 23 = .ok (.iload_n 3, 1) := by decide +kernel
theorem d_Split_multiplyByPoles_24 : decode b_Split_multiplyByPoles 24 = .ok (.isub, 1) := by decide +kernel
theorem d_Split_multiplyByPoles_25 : decode b_Split_multiplyByPoles 25 = .ok (.goto 7, 3) := by decide +kernel
theorem d_Split_multiplyByPoles_28 : decode b_Split_multiplyByPoles 28 = .ok (.aload_n 1, 1) := by decide +kernel
theorem d_Split_multiplyByPoles_29 : decode b_Split_multiplyByPoles 29 = .ok (.iload 4, 2) := by decide +kernel
theorem d_Split_multiplyByPoles_31 : decode b_Split_multiplyByPoles 31 = .ok (.iaload, 1) := by decide +kernel
theorem d_Split_multiplyByPoles_32 : decode b_Split_multiplyByPoles 32 = .ok (.invokevirtual 121, 3) := by decide +kernel
theorem d_Split_multiplyByPoles_35 : decode b_Split_multiplyByPoles 35 = .ok (.iinc 4 1, 3) := by decide +kernel
theorem d_Split_multiplyByPoles_38 : decode b_Split_multiplyByPoles 38 = .ok (.goto (-35), 3) := by decide +kernel
theorem d_Split_multiplyByPoles_41 : decode b_Split_multiplyByPoles 41 = .ok (.return_, 1) := by decide +kernel
theorem d_Split_weightOf_0 : decode b_Split_weightOf 0 = .ok (.aload_n 0, 1) := by decide +kernel
theorem d_Split_weightOf_1 : decode b_Split_weightOf 1 = .ok (.aload_n 1, 1) := by decide +kernel
theorem d_Split_weightOf_2 : decode b_Split_weightOf 2 = .ok (.iload_n 2, 1) := by decide +kernel
theorem d_Split_weightOf_3 : decode b_Split_weightOf 3 = .ok (.invokevirtual 33, 3) := by decide +kernel
theorem d_Split_weightOf_6 : decode b_Split_weightOf 6 = .ok (.aload_n 0, 1) := by decide +kernel
theorem d_Split_weightOf_7 : decode b_Split_weightOf 7 = .ok (.aload_n 1, 1) := by decide +kernel
theorem d_Split_weightOf_8 : decode b_Split_weightOf 8 = .ok (.iload_n 2, 1) := by decide +kernel
theorem d_Split_weightOf_9 : decode b_Split_weightOf 9 = .ok (.iload_n 3, 1) := by decide +kernel
theorem d_Split_weightOf_10 : decode b_Split_weightOf 10 = .ok (.invokevirtual 37, 3) := by decide +kernel
theorem d_Split_weightOf_13 : decode b_Split_weightOf 13 = .ok (.ireturn, 1) := by decide +kernel
end
section
section C1
variable {l : Launch} {D : va_G} {cI cT : ClassId} {G : Gm} {S : Sg}
def Ex (P : Nat → Prop) (S S' : Sg) : Prop := ∀ a, ¬ P a → S'.1 a = S.1 a ∧ S'.2 a = S.2 a
theorem Ex.rf (P : Nat → Prop) (S : Sg) : Ex P S S := fun _ _ => ⟨rfl, rfl⟩
theorem Ex.trans {P : Nat → Prop} {S S1 S2 : Sg} (h1 : Ex P S S1) (h2 : Ex P S1 S2) : Ex P S S2 := fun a ha => ⟨(h2 a ha).1.trans (h1 a ha).1, (h2 a ha).2.trans (h1 a ha).2⟩
theorem Ex.mono {P Q : Nat → Prop} {S S1 : Sg} (h : Ex P S S1) (hpq : ∀ a, P a → Q a) : Ex Q S S1 := fun a ha => h a (fun z => ha (hpq a z))
theorem Out.ex {S S1 : Sg} {q w : Nat} (h : Out S S1 q w) {P : Nat → Prop} (hp : ∀ a, q ≤ a → a < q + w → P a) : Ex P S S1 := fun a ha => h a (by
  by_cases h1 : a < q
  · exact Or.inl h1
  · by_cases h2 : a < q + w
    · exact absurd (hp a (by omega) h2) ha
    · exact Or.inr (by omega))
theorem pIs.ex {S S1 : Sg} {q n : Nat} {f : Nat → Nat} {P : Nat → Prop} (h : pIs S q n f) (hx : Ex P S S1) (hd : ∀ a, q ≤ a → a < q + 2 → ¬ P a) : pIs S1 q n f :=
  ⟨((hx (q + 1) (hd _ (by omega) (by omega))).1).trans h.1, ((hx q (hd _ (by omega) (by omega))).2).trans h.2⟩
theorem tIs.ex {S S1 : Sg} {t n z : Nat} {N e : Nat → Nat} {P : Nat → Prop} (h : tIs S t n N e z) (hx : Ex P S S1) (hd : ∀ a, t ≤ a → a < t + 4 → ¬ P a) : tIs S1 t n N e z :=
  ⟨h.1.ex hx (fun a h1 h2 => hd a (by omega) (by omega)), ((hx (t + 3) (hd _ (by omega) (by omega))).1).trans h.2.1, ((hx t (hd _ (by omega) (by omega))).2).trans h.2.2⟩
theorem isT.sepP {t n q m : Nat} (h1 : isT G t n) (h2 : isP G q m) (h : q ≠ t + 1) : t + 4 ≤ q ∨ q + 2 ≤ t := by
  have a1 := kObj_ne h1.1 h2.1 (by decide)
  have a2 := kArr_ne h2.1 h1.2.1.2.1
  have a3 := kArr_ne h2.1 h1.2.2
  have a4 := kArr_ne h1.1 h2.2.1
  omega
def isC (G : Gm) (c : Nat) : Prop := G c = some (kObj iComb (fun _ => [.ref (c + 1), .ref (c + 5)])) ∧ isT G (c + 1) 64 ∧ isP G (c + 5) 64
def wd (n : Nat) (d : Nat → Nat) : Nat → (Nat → Nat) → Nat → Nat
  | 0, f => f
  | k + 1, f => mtN n k (d k) (wd n d k f)
theorem wd_ok {n : Nat} {d : Nat → Nat} {f : Nat → Nat} (h : okP n f) : ∀ k, okP n (wd n d k f)
  | 0 => h
  | k + 1 => mtN_ok (wd_ok h k)
set_option maxHeartbeats 4000000 in
set_option maxRecDepth 100000 in
theorem c_addWidened {c t u m x z y : Nat} {N e M f : Nat → Nat} (hc : isC G c) (ht : isT G t 64) (hu : isT G u m) (htu : t ≠ u) (htc : c + 5 ≠ t + 1) (huc : c + 5 ≠ u + 1) (hN : okP 64 N) (hM : okP m M) (hE : okE e) (hF : okE f) (hfe : ∀ i, f i ≤ e i) (hx : x < 10007) (hs : tIs S t 64 N e z) (hs' : tIs S u m M f y) : CT (mkE l D cI cT) G y_Comb_addWidened b_Comb_addWidened 5 none 2 [.ref c, .ref t, .ref u, .int (nI x)] S (Pv (fun S' => tIs S' t 64 (ads 64 x N (wd 64 (fun i => e i - f i) 9 (cut 64 M))) e z ∧ Ex (fun a => (t + 1 ≤ a ∧ a < t + 3) ∨ (c + 5 ≤ a ∧ a < c + 7)) S S')) := by
  have hsw := ht.sepP hc.2.2 htc
  have hsu := hu.sepP hc.2.2 huc
  have htu' := ht.sep hu htu
  obtain ⟨hC, hnx, hpw⟩ := hc
  have hpw0 := hpw
  obtain ⟨hqw, haw, -, -⟩ := hpw
  obtain ⟨hT, hpp, he⟩ := ht
  have hpp0 := hpp
  obtain ⟨hq, ha, -, -⟩ := hpp
  obtain ⟨hU, hpu, hue⟩ := hu
  have hpu0 := hpu
  obtain ⟨hqu, hau, hm2, hm64⟩ := hpu
  refine mk_v (by decide) (eok l D cI cT) (by simp [Value.category]) (Nat.le_of_ble_eq_true rfl) (fun J X hR => ?_)
  show J S 0 [some (.ref c), some (.ref t), some (.ref u), some (.int (nI x)), none] []
  refine r_aload_n X d_Comb_addWidened_0 (by rfl) ?_
  refine r_get X lf_Comb_23 d_Comb_addWidened_1 (by assumption) (by rfl) ?_
  refine r_aload_n X d_Comb_addWidened_4 (by rfl) ?_
  refine r_get X lf_Comb_45 d_Comb_addWidened_5 (by assumption) (by rfl) ?_
  refine r_cVv X lv_Comb_66 (c_copyFrom hpw0 hpu0 huc hM hs'.1.1) (by assumption) (by decide) rfl (Nat.le_of_ble_eq_true rfl) d_Comb_addWidened_8 rfl (fun S1 h1 => ?_)
  obtain ⟨h1, ho1⟩ := h1
  have hcut := cut_ok 64 hM.1
  have loop : ∀ j b S2, b + j = 9 → pIs S2 (c + 5) 64 (wd 64 (fun i => e i - f i) b (cut 64 M)) → Out S S2 (c + 5) 2 → J S2 14 [some (.ref c), some (.ref t), some (.ref u), some (.int (nI x)), some (.int (nI b))] [] := by
    intro j
    induction j with
    | zero =>
      intro b S2 hb hw ho
      have hb9 : b = 9 := by omega
      subst hb9
      have hs2 := hs.out ho (by omega)
      refine r_iload X d_Comb_addWidened_14 (by rfl) ?_
      refine r_bipush X (x := (nI 8)) d_Comb_addWidened_16 (by decide) ?_
      refine r_icmp_gtN X d_Comb_addWidened_18 (tgt := 51) (by decide) (by omega) (by omega) (fun hc => ?_) (fun hc => ?_)
      · refine r_aload_n X d_Comb_addWidened_51 (by rfl) ?_
        refine r_get X lf_Comb_45 d_Comb_addWidened_52 (by assumption) (by rfl) ?_
        refine r_aload_n X d_Comb_addWidened_55 (by rfl) ?_
        refine r_get X lf_Comb_23 d_Comb_addWidened_56 (by assumption) (by rfl) ?_
        refine r_iload_n X d_Comb_addWidened_59 (by rfl) ?_
        refine r_cVv X lv_Comb_74 (c_addScaled hpp0 hpw0 (fun z => htc z.symm) hN (wd_ok hcut 9) hs2.1.1 hw.1 hx) (by assumption) (by decide) rfl (Nat.le_of_ble_eq_true rfl) d_Comb_addWidened_60 rfl (fun S3 h3 => ?_)
        obtain ⟨h3, ho3⟩ := h3
        refine hR _ _ _ d_Comb_addWidened_63 ⟨rfl, ⟨h3, ?_, ?_⟩, ?_⟩
        · rw [ho3.a1 (by omega)]; exact hs2.2.1
        · rw [ho3.a2 (by omega)]; exact hs2.2.2
        · exact (ho.ex (fun a h1 h2 => Or.inr ⟨h1, by omega⟩)).trans (ho3.ex (fun a h1 h2 => Or.inl ⟨h1, by omega⟩))
      · omega
    | succ j ih =>
      intro b S2 hb hw ho
      have hs2 := hs.out ho (by omega)
      have hs2' := hs'.out ho (by omega)
      have hle := hfe b
      have h100 := hE.1 b
      refine r_iload X d_Comb_addWidened_14 (by rfl) ?_
      refine r_bipush X (x := (nI 8)) d_Comb_addWidened_16 (by decide) ?_
      refine r_icmp_gtN X d_Comb_addWidened_18 (tgt := 51) (by decide) (by omega) (by omega) (fun hc => ?_) (fun hc => ?_)
      · omega
      · refine r_aload_n X d_Comb_addWidened_21 (by rfl) ?_
        refine r_get X lf_Comb_23 d_Comb_addWidened_22 (by assumption) (by rfl) ?_
        refine r_iload X d_Comb_addWidened_25 (by rfl) ?_
        refine r_aload_n X d_Comb_addWidened_27 (by rfl) ?_
        refine r_get X lf_Comb_35 d_Comb_addWidened_28 (by assumption) (by rfl) ?_
        refine r_iload X d_Comb_addWidened_31 (by rfl) ?_
        refine r_iald X d_Comb_addWidened_33 (by assumption) (by omega) (by omega) ?_
        refine r_aload_n X d_Comb_addWidened_34 (by rfl) ?_
        refine r_get X lf_Comb_35 d_Comb_addWidened_35 (by assumption) (by rfl) ?_
        refine r_iload X d_Comb_addWidened_38 (by rfl) ?_
        refine r_iald X d_Comb_addWidened_40 (by assumption) (by omega) (by omega) ?_
        rw [hs2.2.1, hs2'.2.1]
        first | refine r_isubN X d_Comb_addWidened_41 (by omega) ?_ | refine r_isub X d_Comb_addWidened_41 ?_
        refine r_cVv X lv_Comb_70 (c_multiplyBy (b := b) (t := e b - f b) hpw0 (wd_ok hcut b) hw (by omega) (by omega)) (by assumption) (by decide) rfl (Nat.le_of_ble_eq_true rfl) d_Comb_addWidened_42 rfl (fun S3 h3 => ?_)
        obtain ⟨h3, ho3⟩ := h3
        refine r_iincN X 1 d_Comb_addWidened_45 (by rfl) (by decide) (by decide) ?_
        refine r_goto X d_Comb_addWidened_48 (tgt := 14) (by decide) ?_
        exact ih (b + 1) S3 (by omega) h3 (ho.trans ho3)
  refine r_iconst X (x := (nI 0)) d_Comb_addWidened_11 (by decide) ?_
  refine r_istore X d_Comb_addWidened_12 (by decide) ?_
  exact loop 9 0 S1 (by omega) h1 ho1
theorem ads_0 {n : Nat} {g : Nat → Nat} (hg : okP n g) : ads n 1 (fun _ => 0) g = g := by
  funext i
  unfold ads
  split
  · have := hg.1 i
    simp
    omega
  · rw [hg.2 i (by omega)]
def cmb (x : Nat) (N e M f : Nat → Nat) : Nat → Nat := ads 64 x (wd 64 (fun i => max (e i) (f i) - e i) 9 (cut 64 N)) (wd 64 (fun i => max (e i) (f i) - f i) 9 (cut 64 M))
def mxE (e f : Nat → Nat) : Nat → Nat := fun i => max (e i) (f i)
theorem mxE_ok {e f : Nat → Nat} (h1 : okE e) (h2 : okE f) : okE (mxE e f) := ⟨fun i => by have := h1.1 i; have := h2.1 i; show max (e i) (f i) < 100; omega, fun i hi => by show max (e i) (f i) = 0; rw [h1.2 i hi, h2.2 i hi]; rfl⟩
set_option maxHeartbeats 4000000 in
set_option maxRecDepth 100000 in
theorem c_combine {c t u m w k x z y : Nat} {N e M f : Nat → Nat} (hc : isC G c) (ht : isT G t 64) (hu : isT G u m) (hw : isT G w k) (htu : t ≠ u) (htw : t ≠ w) (htc : c + 5 ≠ t + 1) (huc : c + 5 ≠ u + 1) (hwc : c + 5 ≠ w + 1) (hN : okP m N) (hM : okP k M) (hE : okE e) (hF : okE f) (hx : x < 10007) (hs : tIs S u m N e z) (hs' : tIs S w k M f y) : CT (mkE l D cI cT) G y_Comb_combine b_Comb_combine 6 none 4 [.ref c, .ref t, .ref u, .ref w, .int (nI x)] S (Pv (fun S' => tIs S' t 64 (nrN 64 (cmb x N e M f) (mxE e f)) (nrE 64 (cmb x N e M f) (mxE e f)) (nrZ 64 (cmb x N e M f) (if tp N m = 0 then y else z)) ∧ Ex (fun a => (t ≤ a ∧ a < t + 4) ∨ (c + 5 ≤ a ∧ a < c + 7)) S S')) := by
  have hc0 := hc
  have ht0 := ht
  have hu0 := hu
  have hw0 := hw
  have hsw := ht.sepP hc.2.2 htc
  have hsu := hu.sepP hc.2.2 huc
  have hsv := hw.sepP hc.2.2 hwc
  have htu' := ht.sep hu htu
  have htw' := ht.sep hw htw
  obtain ⟨hC, hnx, hpw⟩ := hc
  obtain ⟨hT, hpp, he⟩ := ht
  have hpp0 := hpp
  obtain ⟨hq, ha, -, -⟩ := hpp
  obtain ⟨hU, hpu, hue⟩ := hu
  obtain ⟨hW, hpw2, hwe⟩ := hw
  refine mk_v (by decide) (eok l D cI cT) (by simp [Value.category]) (Nat.le_of_ble_eq_true rfl) (fun J X hR => ?_)
  show J S 0 [some (.ref c), some (.ref t), some (.ref u), some (.ref w), some (.int (nI x)), none] []
  have body : ∀ v, v = (if tp N m = 0 then y else z) → J S 19 [some (.ref c), some (.ref t), some (.ref u), some (.ref w), some (.int (nI x)), none] [.int (nI v), .ref t] := by
    intro v hv
    refine r_put X lp_Comb_31 d_Comb_combine_19 (by assumption) (by rfl) (Nat.le_of_ble_eq_true rfl) ?_
    refine r_iconst X (x := (nI 0)) d_Comb_combine_22 (by decide) ?_
    refine r_istore X d_Comb_combine_23 (by decide) ?_
    have ho1 : Out S (fdS S t (nI v)) t 1 := Out.fd (by omega) (by omega)
    have ez : (fdS S t (nI v)).2 t = nI v := fdS_2 _ _ _
    have hs1 := hs.out ho1 (by omega)
    have hs1' := hs'.out ho1 (by omega)
    revert ho1 ez hs1 hs1'
    generalize fdS S t (nI v) = S1
    intro ho1 ez hs1 hs1'
    have hok := mxE_ok hE hF
    have loop : ∀ j b S3, b + j = 9 → S3 = arS S1 (t + 3) (fun i => if i < b then mxE e f i else S1.1 (t + 3) i) → J S3 25 [some (.ref c), some (.ref t), some (.ref u), some (.ref w), some (.int (nI x)), some (.int (nI b))] [] := by
      intro j
      induction j with
      | zero =>
        intro b S3 hb hS
        refine r_iload X d_Comb_combine_25 (by rfl) ?_
        refine r_bipush X (x := (nI 8)) d_Comb_combine_27 (by decide) ?_
        refine r_icmp_gtN X d_Comb_combine_29 (tgt := 62) (by decide) (by omega) (by omega) (fun hc => ?_) (fun hc => ?_)
        · refine r_trunc X (f := mxE e f) he (fun i hi => ?_) ?_
          · rw [hS, arS_1, if_pos (by omega)]
          · rw [hS, arS_arS]
            have ho3 : Out S1 (arS S1 (t + 3) (mxE e f)) (t + 3) 1 := Out.ar (by omega) (by omega)
            have e3 : (arS S1 (t + 3) (mxE e f)).1 (t + 3) = mxE e f := arS_1 _ _ _
            have e4 : (arS S1 (t + 3) (mxE e f)).2 t = nI v := by rw [arS_2]; exact ez
            have hs3 := hs1.out ho3 (by omega)
            have hs3' := hs1'.out ho3 (by omega)
            revert ho3 e3 e4 hs3 hs3'
            generalize arS S1 (t + 3) (mxE e f) = S4
            intro ho3 e3 e4 hs3 hs3'
            refine r_aload_n X d_Comb_combine_62 (by rfl) ?_
            refine r_get X lf_Comb_45 d_Comb_combine_63 (by assumption) (by rfl) ?_
            refine r_cVv X lv_Comb_48 (c_clear hpp0) (by assumption) (by decide) rfl (Nat.le_of_ble_eq_true rfl) d_Comb_combine_66 rfl (fun S5 h5 => ?_)
            obtain ⟨h5, ho5⟩ := h5
            have ht5 : tIs S5 t 64 (fun _ => 0) (mxE e f) v := ⟨h5, by rw [ho5.a1 (by omega)]; exact e3, by rw [ho5.a2 (by omega)]; exact e4⟩
            have hs5 := hs3.out ho5 (by omega)
            have hs5' := hs3'.out ho5 (by omega)
            refine r_aload_n X d_Comb_combine_69 (by rfl) ?_
            refine r_aload_n X d_Comb_combine_70 (by rfl) ?_
            refine r_aload_n X d_Comb_combine_71 (by rfl) ?_
            refine r_iconst X (x := (nI 1)) d_Comb_combine_72 (by decide) ?_
            refine r_cVv X lv_Comb_51 (c_addWidened (x := 1) hc0 ht0 hu0 htu htc huc ⟨fun _ => (by decide : 0 < 10007), fun _ _ => rfl⟩ hN hok hE (fun i => Nat.le_max_left _ _) (by decide) ht5 hs5) (by assumption) (by decide) rfl (Nat.le_of_ble_eq_true rfl) d_Comb_combine_73 rfl (fun S6 h6 => ?_)
            obtain ⟨h6, hx6⟩ := h6
            have hs6' := hs5'.ex hx6 (fun a h1 h2 => by omega)
            refine r_aload_n X d_Comb_combine_76 (by rfl) ?_
            refine r_aload_n X d_Comb_combine_77 (by rfl) ?_
            refine r_aload_n X d_Comb_combine_78 (by rfl) ?_
            refine r_iload X d_Comb_combine_79 (by rfl) ?_
            rw [ads_0 (wd_ok (cut_ok 64 hN.1) 9)] at h6
            refine r_cVv X lv_Comb_51 (c_addWidened hc0 ht0 hw0 htw htc hwc (wd_ok (cut_ok 64 hN.1) 9) hM hok hF (fun i => Nat.le_max_right _ _) hx h6 hs6') (by assumption) (by decide) rfl (Nat.le_of_ble_eq_true rfl) d_Comb_combine_81 rfl (fun S7 h7 => ?_)
            obtain ⟨h7, hx7⟩ := h7
            refine r_aload_n X d_Comb_combine_84 (by rfl) ?_
            refine r_cVv X lv_Comb_55 (c_normalise ht0 (ads_ok 64 x _ _) hok h7) (by assumption) (by decide) rfl (Nat.le_of_ble_eq_true rfl) d_Comb_combine_85 rfl (fun S8 h8 => ?_)
            obtain ⟨h8, ho8⟩ := h8
            refine hR _ _ _ d_Comb_combine_88 ⟨rfl, ?_, ?_⟩
            · rw [← hv]
              exact h8
            · have p1 : Ex (fun a => (t ≤ a ∧ a < t + 4) ∨ (c + 5 ≤ a ∧ a < c + 7)) S S5 := ((ho1.ex (fun a h1 h2 => Or.inl ⟨h1, by omega⟩)).trans (ho3.ex (fun a h1 h2 => Or.inl ⟨by omega, by omega⟩))).trans (ho5.ex (fun a h1 h2 => Or.inl ⟨by omega, by omega⟩))
              exact ((p1.trans (hx6.mono (fun a h => by omega))).trans (hx7.mono (fun a h => by omega))).trans (ho8.ex (fun a h1 h2 => Or.inl ⟨h1, by omega⟩))
        · omega
      | succ j ih =>
        intro b S3 hb hS
        have e1 : S3.1 (u + 3) b = e b := by rw [hS, arS_1n (by omega), hs1.2.1]
        have e2 : S3.1 (w + 3) b = f b := by rw [hS, arS_1n (by omega), hs1'.2.1]
        have b1 := hE.1 b
        have b2 := hF.1 b
        refine r_iload X d_Comb_combine_25 (by rfl) ?_
        refine r_bipush X (x := (nI 8)) d_Comb_combine_27 (by decide) ?_
        refine r_icmp_gtN X d_Comb_combine_29 (tgt := 62) (by decide) (by omega) (by omega) (fun hc => ?_) (fun hc => ?_)
        · omega
        · refine r_aload_n X d_Comb_combine_32 (by rfl) ?_
          refine r_get X lf_Comb_35 d_Comb_combine_33 (by assumption) (by rfl) ?_
          refine r_iload X d_Comb_combine_36 (by rfl) ?_
          refine r_aload_n X d_Comb_combine_38 (by rfl) ?_
          refine r_get X lf_Comb_35 d_Comb_combine_39 (by assumption) (by rfl) ?_
          refine r_iload X d_Comb_combine_42 (by rfl) ?_
          refine r_iald X d_Comb_combine_44 (by assumption) (by omega) (by omega) ?_
          refine r_aload_n X d_Comb_combine_45 (by rfl) ?_
          refine r_get X lf_Comb_35 d_Comb_combine_46 (by assumption) (by rfl) ?_
          refine r_iload X d_Comb_combine_49 (by rfl) ?_
          refine r_iald X d_Comb_combine_51 (by assumption) (by omega) (by omega) ?_
          rw [e1, e2]
          refine r_mmaxN X lm_Comb_39 (by decide) (Nat.le_of_ble_eq_true rfl) (by omega) (by omega) d_Comb_combine_52 ?_
          refine r_iast X d_Comb_combine_55 (by assumption) (by omega) (by omega) ?_
          refine r_iincN X 1 d_Comb_combine_56 (by rfl) (by decide) (by decide) ?_
          refine r_goto X d_Comb_combine_59 (tgt := 25) (by decide) ?_
          refine ih (b + 1) _ (by omega) ?_
          rw [hS, arS_arS, arS_1]
          congr 1
          exact up_lt (mxE e f) _ b
    refine loop 9 0 _ (by omega) ?_
    rw [if_lt0 (mxE e f), arS_id]
  refine r_aload_n X d_Comb_combine_0 (by rfl) ?_
  refine r_aload_n X d_Comb_combine_1 (by rfl) ?_
  refine r_cVi X lv_Comb_27 (c_isZero hu0 hs) (by assumption) (by decide) rfl (Nat.le_of_ble_eq_true rfl) d_Comb_combine_2 rfl (fun S1 r h1 => ?_)
  obtain ⟨rfl, ⟨rfl, h1⟩ | ⟨rfl, h1⟩⟩ := h1
  · refine r_if_eqN X d_Comb_combine_5 (tgt := 15) (by decide) (by omega) (fun hc => ?_) (fun hc => ?_)
    · omega
    · refine r_aload_n X d_Comb_combine_8 (by rfl) ?_
      refine r_get X lf_Comb_31 d_Comb_combine_9 (by assumption) (by rfl) ?_
      rw [hs'.2.2]
      refine r_goto X d_Comb_combine_12 (tgt := 19) (by decide) ?_
      exact body y (by rw [if_pos h1])
  · refine r_if_eqN X d_Comb_combine_5 (tgt := 15) (by decide) (by omega) (fun hc => ?_) (fun hc => ?_)
    · refine r_aload_n X d_Comb_combine_15 (by rfl) ?_
      refine r_get X lf_Comb_31 d_Comb_combine_16 (by assumption) (by rfl) ?_
      rw [hs.2.2]
      exact body z (by rw [if_neg (by omega)])
    · omega
def nxt (n z : Nat) (N : Nat → Nat) : Nat → Nat := scl z (tyl n n (cut n N))
theorem nxt_ok (n z : Nat) {N : Nat → Nat} (h : ∀ i, N i < 10007) : okP n (nxt n z N) := scl_ok (tyl_ok (cut_ok n h) n)
set_option maxHeartbeats 4000000 in
set_option maxRecDepth 100000 in
theorem c_sub {c t u m z : Nat} {N e : Nat → Nat} (hc : isC G c) (ht : isT G t 64) (hu : isT G u m) (htu : t ≠ u) (htc : c + 5 ≠ t + 1) (huc : c + 5 ≠ u + 1) (htn : t ≠ c + 1) (hun : u ≠ c + 1) (hN : okP m N) (hE : okE e) (hz : z < 10007) (hs : tIs S u m N e z) : CT (mkE l D cI cT) G y_Comb_subtractFromNext b_Comb_subtractFromNext 3 none 5 [.ref c, .ref t, .ref u] S (Pv (fun S' => tIs S' t 64 (nrN 64 (cmb 10006 (nxt 64 z N) (sh1 e) N e) (mxE (sh1 e) e)) (nrE 64 (cmb 10006 (nxt 64 z N) (sh1 e) N e) (mxE (sh1 e) e)) (nrZ 64 (cmb 10006 (nxt 64 z N) (sh1 e) N e) z) ∧ Ex (fun a => (t ≤ a ∧ a < t + 4) ∨ (c ≤ a ∧ a < c + 7)) S S')) := by
  have hc0 := hc
  have hsep := hu.sep hc.2.1 hun
  obtain ⟨hC, hnx, hpw⟩ := hc
  have hnx0 := hnx
  obtain ⟨hNT, hNP, hNE⟩ := hnx
  refine mk_v (by decide) (eok l D cI cT) (by simp [Value.category]) (Nat.le_of_ble_eq_true rfl) (fun J X hR => ?_)
  show J S 0 [some (.ref c), some (.ref t), some (.ref u)] []
  refine r_aload_n X d_Comb_subtractFromNext_0 (by rfl) ?_
  refine r_get X lf_Comb_14 d_Comb_subtractFromNext_1 (by assumption) (by rfl) ?_
  refine r_aload_n X d_Comb_subtractFromNext_4 (by rfl) ?_
  refine r_cVv X lv_Comb_58 (c_next hnx0 hu (fun z => hun z.symm) hN hE hz hs) (by assumption) (by decide) rfl (Nat.le_of_ble_eq_true rfl) d_Comb_subtractFromNext_5 rfl (fun S1 h1 => ?_)
  obtain ⟨h1, ho1⟩ := h1
  have hs1 := hs.out ho1 (by omega)
  refine r_aload_n X d_Comb_subtractFromNext_8 (by rfl) ?_
  refine r_aload_n X d_Comb_subtractFromNext_9 (by rfl) ?_
  refine r_aload_n X d_Comb_subtractFromNext_10 (by rfl) ?_
  refine r_get X lf_Comb_14 d_Comb_subtractFromNext_11 (by assumption) (by rfl) ?_
  refine r_aload_n X d_Comb_subtractFromNext_14 (by rfl) ?_
  refine r_sipush X (x := (nI 10006)) d_Comb_subtractFromNext_15 (by decide) ?_
  refine r_cVv X lv_Comb_62 (c_combine (x := 10006) hc0 ht hnx0 hu htn htu htc (by omega) huc (nxt_ok 64 z hN.1) hN (sh1_ok hE) hE (by decide) h1 hs1) (by assumption) (by decide) rfl (Nat.le_of_ble_eq_true rfl) d_Comb_subtractFromNext_18 rfl (fun S2 h2 => ?_)
  obtain ⟨h2, hx2⟩ := h2
  refine hR _ _ _ d_Comb_subtractFromNext_21 ⟨rfl, ?_, ?_⟩
  · rw [show (if tp (nxt 64 z N) 64 = 0 then z else z) = z by split <;> rfl] at h2
    exact h2
  · exact (ho1.ex (fun a h1 h2 => Or.inr ⟨by omega, by omega⟩)).trans (hx2.mono (fun a h => by omega))
end C1
end
section
section S1
variable {l : Launch} {D : va_G} {cI cT : ClassId} {G : Gm} {S : Sg}
def isS (G : Gm) (s : Nat) : Prop := G s = some (kObj iSplit (fun _ => [.ref (s + 1), .ref (s + 2), .ref (s + 3), .ref (s + 5), .ref (s + 7)])) ∧ G (s + 1) = some (kArr 3) ∧ G (s + 2) = some (kArr 24) ∧ isP G (s + 3) 64 ∧ isP G (s + 5) 64 ∧ isP G (s + 7) 64
theorem isT.sepS {t n s : Nat} (h1 : isT G t n) (h2 : isS G s) : t + 4 ≤ s ∨ s + 9 ≤ t := by
  have a0 := kObj_ne h1.1 h2.1 (by decide)
  have a1 := kArr_ne h1.1 h2.2.1
  have a2 := kArr_ne h1.1 h2.2.2.1
  have a3 := kObj_ne h1.1 h2.2.2.2.1.1 (by decide)
  have a4 := kArr_ne h1.1 h2.2.2.2.1.2.1
  have a5 := kObj_ne h1.1 h2.2.2.2.2.1.1 (by decide)
  have a6 := kArr_ne h1.1 h2.2.2.2.2.1.2.1
  have a7 := kObj_ne h1.1 h2.2.2.2.2.2.1 (by decide)
  have a8 := kArr_ne h1.1 h2.2.2.2.2.2.2.1
  have b1 := kObj_ne h2.1 h1.2.1.1 (by decide)
  have b2 := kArr_ne h2.1 h1.2.1.2.1
  have b3 := kArr_ne h2.1 h1.2.2
  omega
def dsr (d : Nat) (s : Nat → Nat) : Nat → Nat
  | 0 => s 0 * iv d % 10007
  | i + 1 => (s (i + 1) + (10007 - dsr d s i)) % 10007 * iv d % 10007
theorem dsr_lt (d : Nat) (s : Nat → Nat) (i : Nat) : dsr d s i < 10007 := by
  cases i with
  | zero => exact Nat.mod_lt _ (by decide)
  | succ i => exact Nat.mod_lt _ (by decide)
def dse (d : Nat) (s : Nat → Nat) : Nat → Nat := cut 3 (dsr d s)
def dseN (d : Nat) : Nat → (Nat → Nat) → Nat → Nat
  | 0, s => s
  | t + 1, s => dseN d t (dse d s)
theorem dse_ok (d : Nat) (s : Nat → Nat) : okP 3 (dse d s) := cut_ok 3 (dsr_lt d s)
theorem dseN_ok {d : Nat} : ∀ (t : Nat) {s : Nat → Nat}, okP 3 s → okP 3 (dseN d t s)
  | 0, _, h => h
  | t + 1, s, _ => dseN_ok t (dse_ok d s)
set_option maxHeartbeats 4000000 in
set_option maxRecDepth 100000 in
theorem c_divideSeries {s d : Nat} {f : Nat → Nat} (hs : isS G s) (hf : okP 3 f) (he : S.1 (s + 1) = f) (hd : d < 10007) : CT (mkE l D cI cT) G y_Split_divideSeries b_Split_divideSeries 5 none 2 [.ref s, .int (nI d)] S (Pv (fun S' => S'.1 (s + 1) = dse d f ∧ Out S S' (s + 1) 1)) := by
  obtain ⟨hS, ha1, ha2, -⟩ := hs
  refine mk_v (by decide) (eok l D cI cT) (by simp [Value.category]) (Nat.le_of_ble_eq_true rfl) (fun J X hR => ?_)
  show J S 0 [some (.ref s), some (.int (nI d)), none, none, none] []
  have hiv := iv_lt d
  have loop : ∀ m i y S1, i + m = 3 → (y = if i = 0 then 0 else dsr d f (i - 1)) → S1 = arS S (s + 1) (fun j => if j < i then dsr d f j else f j) → J S1 10 [some (.ref s), some (.int (nI d)), some (.int (nI (iv d))), some (.int (nI y)), some (.int (nI i))] [] := by
    intro m
    induction m with
    | zero =>
      intro i y S1 hi hy hS1
      refine r_iload X d_Split_divideSeries_10 (by rfl) ?_
      refine r_iconst X (x := (nI 3)) d_Split_divideSeries_12 (by decide) ?_
      refine r_icmp_geN X d_Split_divideSeries_13 (tgt := 55) (by decide) (by omega) (by omega) (fun hc => ?_) (fun hc => ?_)
      · refine r_trunc X (f := dse d f) ha1 (fun j hj => ?_) ?_
        · rw [hS1, arS_1, if_pos (by omega)]
          unfold dse cut
          rw [if_pos hj]
        · refine hR _ _ _ d_Split_divideSeries_55 ⟨rfl, arS_1 _ _ _, ?_⟩
          rw [hS1, arS_arS]
          exact Out.ar (by omega) (by omega)
      · omega
    | succ m ih =>
      intro i y S1 hi hy hS1
      have e1 : S1.1 (s + 1) i = f i := by rw [hS1, arS_1, if_neg (by omega)]
      have b1 := hf.1 i
      have hy7 : y < 10007 := by rw [hy]; split; decide; exact dsr_lt _ _ _
      have he7 := em_lt (nI (f i) - nI y)
      have hm := mul_bd he7 hiv
      refine r_iload X d_Split_divideSeries_10 (by rfl) ?_
      refine r_iconst X (x := (nI 3)) d_Split_divideSeries_12 (by decide) ?_
      refine r_icmp_geN X d_Split_divideSeries_13 (tgt := 55) (by decide) (by omega) (by omega) (fun hc => ?_) (fun hc => ?_)
      · omega
      · refine r_aload_n X d_Split_divideSeries_16 (by rfl) ?_
        refine r_get X lf_Split_9 d_Split_divideSeries_17 (by assumption) (by rfl) ?_
        refine r_iload X d_Split_divideSeries_20 (by rfl) ?_
        refine r_aload_n X d_Split_divideSeries_22 (by rfl) ?_
        refine r_get X lf_Split_9 d_Split_divideSeries_23 (by assumption) (by rfl) ?_
        refine r_iload X d_Split_divideSeries_26 (by rfl) ?_
        refine r_iald X d_Split_divideSeries_28 (by assumption) (by omega) (by omega) ?_
        rw [e1]
        refine r_iload_n X d_Split_divideSeries_29 (by rfl) ?_
        refine r_isub X d_Split_divideSeries_30 ?_
        refine r_cSi X ls_Split_73 c_of (by decide) rfl (Nat.le_of_ble_eq_true rfl) d_Split_divideSeries_31 rfl (fun S2 r h2 => ?_)
        obtain ⟨rfl, rfl⟩ := h2
        refine r_iload_n X d_Split_divideSeries_34 (by rfl) ?_
        first | refine r_imulN X d_Split_divideSeries_35 ?_ | refine r_imul X d_Split_divideSeries_35 ?_
        refine r_sipush X (x := (nI 10007)) d_Split_divideSeries_36 (by decide) ?_
        refine r_iremN X d_Split_divideSeries_39 (by decide) (by decide) (by omega) ?_
        refine r_iast X d_Split_divideSeries_40 (by assumption) (by omega) (by omega) ?_
        have e4 : em (nI (f i) - nI y) * iv d % 10007 = dsr d f i := by
          rw [em_sub b1 hy7]
          cases i with
          | zero =>
            rw [hy, if_pos rfl]
            show (f 0 + (10007 - 0)) % 10007 * iv d % 10007 = f 0 * iv d % 10007
            rw [show (f 0 + (10007 - 0)) % 10007 = f 0 by omega]
          | succ i =>
            rw [hy, if_neg (by omega)]
            rfl
        rw [e4]
        have e5 : arS S2 (s + 1) (va_up (S2.1 (s + 1)) i (dsr d f i)) = arS S (s + 1) (fun j => if j < i + 1 then dsr d f j else f j) := by
          rw [hS1, arS_arS, arS_1, up_lt]
        rw [e5]
        have e6 : (arS S (s + 1) (fun j => if j < i + 1 then dsr d f j else f j)).1 (s + 1) i = dsr d f i := by rw [arS_1, if_pos (by omega)]
        revert e6
        generalize hS3 : arS S (s + 1) (fun j => if j < i + 1 then dsr d f j else f j) = S3
        intro e6
        refine r_aload_n X d_Split_divideSeries_41 (by rfl) ?_
        refine r_get X lf_Split_9 d_Split_divideSeries_42 (by assumption) (by rfl) ?_
        refine r_iload X d_Split_divideSeries_45 (by rfl) ?_
        refine r_iald X d_Split_divideSeries_47 (by assumption) (by omega) (by omega) ?_
        rw [e6]
        refine r_istore_n X d_Split_divideSeries_48 (by decide) ?_
        refine r_iincN X 1 d_Split_divideSeries_49 (by rfl) (by decide) (by decide) ?_
        refine r_goto X d_Split_divideSeries_52 (tgt := 10) (by decide) ?_
        exact ih (i + 1) _ _ (by omega) (by rw [if_neg (by omega), show i + 1 - 1 = i by omega]) hS3.symm
  refine r_iload_n X d_Split_divideSeries_0 (by rfl) ?_
  refine r_cSi X ls_Split_81 (c_invert hd) (by decide) rfl (Nat.le_of_ble_eq_true rfl) d_Split_divideSeries_1 rfl (fun S2 r h2 => ?_)
  obtain ⟨rfl, rfl⟩ := h2
  refine r_istore_n X d_Split_divideSeries_4 (by decide) ?_
  refine r_iconst X (x := (nI 0)) d_Split_divideSeries_5 (by decide) ?_
  refine r_istore_n X d_Split_divideSeries_6 (by decide) ?_
  refine r_iconst X (x := (nI 0)) d_Split_divideSeries_7 (by decide) ?_
  refine r_istore X d_Split_divideSeries_8 (by decide) ?_
  refine loop 3 0 0 _ (by omega) rfl ?_
  rw [if_lt0 (dsr d f), ← he, arS_id]
def rdq (r : Nat) : Nat → (Nat → Nat) → Nat → Nat
  | 0, f => f
  | k + 1, f => dq 64 r (rdq r k f)
theorem rdq_ok {r : Nat} {f : Nat → Nat} (h : okP 64 f) : ∀ k, okP 64 (rdq r k f)
  | 0 => h
  | k + 1 => dq_ok 64 r _
def ser0 (r : Nat) (f : Nat → Nat) : Nat → Nat := fun i => if i < 3 then hn (rdq r i f) r 64 0 else 0
theorem ser0_ok (r : Nat) (f : Nat → Nat) : okP 3 (ser0 r f) := by
  refine ⟨fun i => ?_, fun i hi => ?_⟩
  · unfold ser0
    split
    · exact hn_lt _ _ _ _
    · decide
  · unfold ser0
    rw [if_neg (by omega)]
def dst (o b : Nat) : Nat := (o + (10007 - b)) % 10007
def xsr (e : Nat → Nat) (b : Nat) : Nat → (Nat → Nat) → Nat → Nat
  | 0, s => s
  | k + 1, s => if k = b then xsr e b k s else dseN (dst k b) (e k) (xsr e b k s)
theorem xsr_ok {e : Nat → Nat} {b : Nat} {s : Nat → Nat} (h : okP 3 s) : ∀ k, okP 3 (xsr e b k s) := by
  intro k
  induction k with
  | zero => exact h
  | succ k ih =>
    unfold xsr
    split
    · exact ih
    · exact dseN_ok _ ih
def xpn (e : Nat → Nat) (b : Nat) (N : Nat → Nat) : Nat → Nat := xsr e b 8 (ser0 (rt b) (cut 64 N))
theorem xpn_ok (e : Nat → Nat) (b : Nat) (N : Nat → Nat) : okP 3 (xpn e b N) := xsr_ok (ser0_ok _ _) 8
theorem dseN_s (d : Nat) : ∀ (t : Nat) (s : Nat → Nat), dseN d (t + 1) s = dse d (dseN d t s)
  | 0, _ => rfl
  | t + 1, s => dseN_s d t (dse d s)
set_option maxHeartbeats 4000000 in
set_option maxRecDepth 100000 in
theorem c_expandAt {s u m b z : Nat} {N e : Nat → Nat} (hs : isS G s) (hu : isT G u m) (hN : okP m N) (hE : okE e) (hb : b < 8) (hu1 : tIs S u m N e z) : CT (mkE l D cI cT) G y_Split_expandAt b_Split_expandAt 5 none 3 [.ref s, .ref u, .int (nI b)] S (Pv (fun S' => S'.1 (s + 1) = xpn e b N ∧ Ex (fun a => a = s + 1 ∨ a = s + 3 ∨ a = s + 4) S S')) := by
  have hs0 := hs
  have hsep := hu.sepS hs
  obtain ⟨hS, ha1, ha2, hpr, hpst, hpwh⟩ := hs
  have hpr0 := hpr
  obtain ⟨hqr, har, -, -⟩ := hpr
  obtain ⟨hU, hpu, hue⟩ := hu
  have hpu0 := hpu
  obtain ⟨hqu, hau, hm2, hm64⟩ := hpu
  refine mk_v (by decide) (eok l D cI cT) (by simp [Value.category]) (Nat.le_of_ble_eq_true rfl) (fun J X hR => ?_)
  show J S 0 [some (.ref s), some (.ref u), some (.int (nI b)), none, none] []
  refine r_aload_n X d_Split_expandAt_0 (by rfl) ?_
  refine r_get X lf_Split_23 d_Split_expandAt_1 (by assumption) (by rfl) ?_
  refine r_aload_n X d_Split_expandAt_4 (by rfl) ?_
  refine r_get X lf_Split_59 d_Split_expandAt_5 (by assumption) (by rfl) ?_
  refine r_cVv X lv_Split_62 (c_copyFrom hpr0 hpu0 (by omega) hN hu1.1.1) (by assumption) (by decide) rfl (Nat.le_of_ble_eq_true rfl) d_Split_expandAt_8 rfl (fun S1 h1 => ?_)
  obtain ⟨h1, ho1⟩ := h1
  have hcut := cut_ok 64 hN.1
  have second : ∀ j o v S2, o + j = 8 → S2.1 (s + 1) = xsr e b o (ser0 (rt b) (cut 64 N)) → Ex (fun a => a = s + 1 ∨ a = s + 3 ∨ a = s + 4) S S2 → J S2 40 [some (.ref s), some (.ref u), some (.int (nI b)), some (.int (nI o)), v] [] := by
    intro j
    induction j with
    | zero =>
      intro o v S2 ho hser hx
      have ho8 : o = 8 := by omega
      subst ho8
      refine r_iload_n X d_Split_expandAt_40 (by rfl) ?_
      refine r_bipush X (x := (nI 8)) d_Split_expandAt_41 (by decide) ?_
      refine r_icmp_geN X d_Split_expandAt_43 (tgt := 87) (by decide) (by omega) (by omega) (fun hc => ?_) (fun hc => ?_)
      · exact hR _ _ _ d_Split_expandAt_87 ⟨rfl, hser, hx⟩
      · omega
    | succ j ih =>
      intro o v S2 ho hser hx
      have hs2 := hu1.ex hx (fun a h1 h2 => by omega)
      have h100 := hE.1 o
      refine r_iload_n X d_Split_expandAt_40 (by rfl) ?_
      refine r_bipush X (x := (nI 8)) d_Split_expandAt_41 (by decide) ?_
      refine r_icmp_geN X d_Split_expandAt_43 (tgt := 87) (by decide) (by omega) (by omega) (fun hc => ?_) (fun hc => ?_)
      · omega
      · refine r_iconst X (x := (nI 0)) d_Split_expandAt_46 (by decide) ?_
        refine r_istore X d_Split_expandAt_47 (by decide) ?_
        have inner : ∀ d k S3, k + d = e o → o ≠ b → S3.1 (s + 1) = dseN (dst o b) k (xsr e b o (ser0 (rt b) (cut 64 N))) → Ex (fun a => a = s + 1 ∨ a = s + 3 ∨ a = s + 4) S S3 → J S3 49 [some (.ref s), some (.ref u), some (.int (nI b)), some (.int (nI o)), some (.int (nI k))] [] := by
          intro d
          induction d with
          | zero =>
            intro k S3 hk hob hser3 hx3
            have hs3 := hu1.ex hx3 (fun a h1 h2 => by omega)
            refine r_iload_n X d_Split_expandAt_49 (by rfl) ?_
            refine r_iload_n X d_Split_expandAt_50 (by rfl) ?_
            refine r_icmp_eqN X d_Split_expandAt_51 (tgt := 81) (by decide) (by omega) (by omega) (fun hc => ?_) (fun hc => ?_)
            · exact absurd hc hob
            · refine r_iload X d_Split_expandAt_54 (by rfl) ?_
              refine r_aload_n X d_Split_expandAt_56 (by rfl) ?_
              refine r_get X lf_Split_70 d_Split_expandAt_57 (by assumption) (by rfl) ?_
              refine r_iload_n X d_Split_expandAt_60 (by rfl) ?_
              refine r_iald X d_Split_expandAt_61 (by assumption) (by omega) (by omega) ?_
              rw [hs3.2.1]
              refine r_icmp_geN X d_Split_expandAt_62 (tgt := 81) (by decide) (by omega) (by omega) (fun hc => ?_) (fun hc => ?_)
              · refine r_iincN X 1 d_Split_expandAt_81 (by rfl) (by decide) (by decide) ?_
                refine r_goto X d_Split_expandAt_84 (tgt := 40) (by decide) ?_
                refine ih (o + 1) _ S3 (by omega) ?_ hx3
                rw [hser3]
                show _ = if o = b then _ else dseN (dst o b) (e o) _
                rw [if_neg hob, show k = e o by omega]
              · omega
          | succ d ihd =>
            intro k S3 hk hob hser3 hx3
            have hs3 := hu1.ex hx3 (fun a h1 h2 => by omega)
            refine r_iload_n X d_Split_expandAt_49 (by rfl) ?_
            refine r_iload_n X d_Split_expandAt_50 (by rfl) ?_
            refine r_icmp_eqN X d_Split_expandAt_51 (tgt := 81) (by decide) (by omega) (by omega) (fun hc => ?_) (fun hc => ?_)
            · exact absurd hc hob
            · refine r_iload X d_Split_expandAt_54 (by rfl) ?_
              refine r_aload_n X d_Split_expandAt_56 (by rfl) ?_
              refine r_get X lf_Split_70 d_Split_expandAt_57 (by assumption) (by rfl) ?_
              refine r_iload_n X d_Split_expandAt_60 (by rfl) ?_
              refine r_iald X d_Split_expandAt_61 (by assumption) (by omega) (by omega) ?_
              rw [hs3.2.1]
              refine r_icmp_geN X d_Split_expandAt_62 (tgt := 81) (by decide) (by omega) (by omega) (fun hc => ?_) (fun hc => ?_)
              · omega
              · refine r_aload_n X d_Split_expandAt_65 (by rfl) ?_
                refine r_iload_n X d_Split_expandAt_66 (by rfl) ?_
                refine r_iload_n X d_Split_expandAt_67 (by rfl) ?_
                refine r_isub X d_Split_expandAt_68 ?_
                refine r_cSi X ls_Split_73 c_of (by decide) rfl (Nat.le_of_ble_eq_true rfl) d_Split_expandAt_69 rfl (fun S4 r h4 => ?_)
                obtain ⟨rfl, rfl⟩ := h4
                rw [em_sub (by omega) (by omega)]
                refine r_cVv X lv_Split_78 (c_divideSeries (d := dst o b) hs0 (dseN_ok k (xsr_ok (ser0_ok _ _) o)) hser3 (Nat.mod_lt _ (by decide))) (by assumption) (by decide) rfl (Nat.le_of_ble_eq_true rfl) d_Split_expandAt_72 rfl (fun S5 h5 => ?_)
                obtain ⟨h5, ho5⟩ := h5
                refine r_iincN X 1 d_Split_expandAt_75 (by rfl) (by decide) (by decide) ?_
                refine r_goto X d_Split_expandAt_78 (tgt := 49) (by decide) ?_
                refine ihd (k + 1) S5 (by omega) hob ?_ (hx3.trans (ho5.ex (fun a h1 h2 => by omega)))
                rw [dseN_s]
                exact h5
        by_cases hob : o = b
        · refine r_iload_n X d_Split_expandAt_49 (by rfl) ?_
          refine r_iload_n X d_Split_expandAt_50 (by rfl) ?_
          refine r_icmp_eqN X d_Split_expandAt_51 (tgt := 81) (by decide) (by omega) (by omega) (fun hc => ?_) (fun hc => ?_)
          · refine r_iincN X 1 d_Split_expandAt_81 (by rfl) (by decide) (by decide) ?_
            refine r_goto X d_Split_expandAt_84 (tgt := 40) (by decide) ?_
            refine ih (o + 1) _ S2 (by omega) ?_ hx
            show _ = if o = b then _ else dseN (dst o b) (e o) _
            rw [if_pos hob]
            exact hser
          · exact absurd hob hc
        · exact inner (e o) 0 S2 (by omega) hob hser hx
  have first : ∀ j i S2, i + j = 3 → pIs S2 (s + 3) 64 (rdq (rt b) i (cut 64 N)) → (∀ k, k < i → S2.1 (s + 1) k = ser0 (rt b) (cut 64 N) k) → Ex (fun a => a = s + 1 ∨ a = s + 3 ∨ a = s + 4) S S2 → J S2 13 [some (.ref s), some (.ref u), some (.int (nI b)), some (.int (nI i)), none] [] := by
    intro j
    induction j with
    | zero =>
      intro i S2 hi hp hk hx
      refine r_iload_n X d_Split_expandAt_13 (by rfl) ?_
      refine r_iconst X (x := (nI 3)) d_Split_expandAt_14 (by decide) ?_
      refine r_icmp_geN X d_Split_expandAt_15 (tgt := 38) (by decide) (by omega) (by omega) (fun hc => ?_) (fun hc => ?_)
      · refine r_trunc X (f := ser0 (rt b) (cut 64 N)) ha1 (fun k hk3 => (hk k (by omega)).symm) ?_
        refine r_iconst X (x := (nI 0)) d_Split_expandAt_38 (by decide) ?_
        refine r_istore_n X d_Split_expandAt_39 (by decide) ?_
        refine second 8 0 _ _ (by omega) (arS_1 _ _ _) (hx.trans ((Out.ar (q := s + 1) (w := 1) (by omega) (by omega)).ex (fun a h1 h2 => by omega)))
      · omega
    | succ j ih =>
      intro i S2 hi hp hk hx
      refine r_iload_n X d_Split_expandAt_13 (by rfl) ?_
      refine r_iconst X (x := (nI 3)) d_Split_expandAt_14 (by decide) ?_
      refine r_icmp_geN X d_Split_expandAt_15 (tgt := 38) (by decide) (by omega) (by omega) (fun hc => ?_) (fun hc => ?_)
      · omega
      · refine r_aload_n X d_Split_expandAt_18 (by rfl) ?_
        refine r_get X lf_Split_9 d_Split_expandAt_19 (by assumption) (by rfl) ?_
        refine r_iload_n X d_Split_expandAt_22 (by rfl) ?_
        refine r_aload_n X d_Split_expandAt_23 (by rfl) ?_
        refine r_get X lf_Split_23 d_Split_expandAt_24 (by assumption) (by rfl) ?_
        refine r_iload_n X d_Split_expandAt_27 (by rfl) ?_
        refine r_cVi X lv_Split_66 (c_divideBy (b := b) hpr0 (rdq_ok hcut i) hp (by omega)) (by assumption) (by decide) rfl (Nat.le_of_ble_eq_true rfl) d_Split_expandAt_28 rfl (fun S3 r h3 => ?_)
        obtain ⟨⟨h3, ho3⟩, rfl⟩ := h3
        refine r_iast X d_Split_expandAt_31 (by assumption) (by omega) (by omega) ?_
        refine r_iincN X 1 d_Split_expandAt_32 (by rfl) (by decide) (by decide) ?_
        refine r_goto X d_Split_expandAt_35 (tgt := 13) (by decide) ?_
        refine ih (i + 1) _ (by omega) ?_ ?_ ?_
        · exact h3.out (Out.ar (a := s + 1) (q := s + 1) (w := 1) (by omega) (by omega)) (by omega)
        · intro k hk2
          rw [arS_1]
          unfold va_up
          by_cases h : k = i
          · rw [if_pos h, h]
            unfold ser0
            rw [if_pos (by omega)]
            rfl
          · rw [if_neg h, ho3.a1 (by omega)]
            exact hk k (by omega)
        · exact (hx.trans (ho3.ex (fun a h1 h2 => by omega))).trans ((Out.ar (q := s + 1) (w := 1) (by omega) (by omega)).ex (fun a h1 h2 => by omega))
  refine r_iconst X (x := (nI 0)) d_Split_expandAt_11 (by decide) ?_
  refine r_istore_n X d_Split_expandAt_12 (by decide) ?_
  exact first 3 0 S1 (by omega) h1 (fun k hk => by omega) (ho1.ex (fun a h1 h2 => by omega))
def wgt (e : Nat → Nat) (b k : Nat) (s : Nat → Nat) : Nat := if k ≤ e b ∧ e b - k < 3 then s (e b - k) else 0
set_option maxHeartbeats 4000000 in
set_option maxRecDepth 100000 in
theorem c_expandedWeight {s u m b k z : Nat} {N e f : Nat → Nat} (hs : isS G s) (hu : isT G u m) (hE : okE e) (hb : b < 8) (hk : k < 100) (hu1 : tIs S u m N e z) (hf : S.1 (s + 1) = f) : CT (mkE l D cI cT) G y_Split_expandedWeight b_Split_expandedWeight 5 (some .int) 0 [.ref s, .ref u, .int (nI b), .int (nI k)] S (Pi (fun S' r => S' = S ∧ r = nI (wgt e b k f))) := by
  obtain ⟨hS, ha1, ha2, -⟩ := hs
  obtain ⟨hU, hpu, hue⟩ := hu
  refine mk_i (by decide) (eok l D cI cT) (by simp [Value.category]) (Nat.le_of_ble_eq_true rfl) (fun J X hR => ?_)
  show J S 0 [some (.ref s), some (.ref u), some (.int (nI b)), some (.int (nI k)), none] []
  have h100 := hE.1 b
  refine r_aload_n X d_Split_expandedWeight_0 (by rfl) ?_
  refine r_get X lf_Split_70 d_Split_expandedWeight_1 (by assumption) (by rfl) ?_
  refine r_iload_n X d_Split_expandedWeight_4 (by rfl) ?_
  refine r_iald X d_Split_expandedWeight_5 (by assumption) (by omega) (by omega) ?_
  rw [hu1.2.1]
  refine r_iload_n X d_Split_expandedWeight_6 (by rfl) ?_
  refine r_isub X d_Split_expandedWeight_7 ?_
  by_cases hle : k ≤ e b
  · refine r_int (pk_sub hle) ?_
    refine r_istore X d_Split_expandedWeight_8 (by decide) ?_
    refine r_iload X d_Split_expandedWeight_10 (by rfl) ?_
    refine r_if_lt X d_Split_expandedWeight_12 (tgt := 31) (by decide) (fun hc => absurd hc (nI_pos (by omega))) (fun hc => ?_)
    refine r_iload X d_Split_expandedWeight_15 (by rfl) ?_
    refine r_iconst X (x := (nI 3)) d_Split_expandedWeight_17 (by decide) ?_
    refine r_icmp_geN X d_Split_expandedWeight_18 (tgt := 31) (by decide) (by omega) (by omega) (fun hc => ?_) (fun hc => ?_)
    · refine r_iconst X (x := (nI 0)) d_Split_expandedWeight_31 (by decide) ?_
      refine hR _ _ _ _ d_Split_expandedWeight_32 rfl ⟨_, rfl, rfl, ?_⟩
      unfold wgt
      rw [if_neg (by omega)]
    · refine r_aload_n X d_Split_expandedWeight_21 (by rfl) ?_
      refine r_get X lf_Split_9 d_Split_expandedWeight_22 (by assumption) (by rfl) ?_
      refine r_iload X d_Split_expandedWeight_25 (by rfl) ?_
      refine r_iald X d_Split_expandedWeight_27 (by assumption) (by omega) (by omega) ?_
      refine r_goto X d_Split_expandedWeight_28 (tgt := 32) (by decide) ?_
      refine hR _ _ _ _ d_Split_expandedWeight_32 rfl ⟨_, rfl, rfl, ?_⟩
      unfold wgt
      rw [if_pos (by omega), hf]
  · refine r_istore X d_Split_expandedWeight_8 (by decide) ?_
    refine r_iload X d_Split_expandedWeight_10 (by rfl) ?_
    refine r_if_lt X d_Split_expandedWeight_12 (tgt := 31) (by decide) (fun hc => ?_) (fun hc => absurd (pk_sneg (by omega) (by omega)) hc)
    refine r_iconst X (x := (nI 0)) d_Split_expandedWeight_31 (by decide) ?_
    refine hR _ _ _ _ d_Split_expandedWeight_32 rfl ⟨_, rfl, rfl, ?_⟩
    unfold wgt
    rw [if_neg (by omega)]
set_option maxHeartbeats 4000000 in
set_option maxRecDepth 100000 in
theorem c_weightOf {s u m b k z : Nat} {N e : Nat → Nat} (hs : isS G s) (hu : isT G u m) (hN : okP m N) (hE : okE e) (hb : b < 8) (hk : k < 100) (hu1 : tIs S u m N e z) : CT (mkE l D cI cT) G y_Split_weightOf b_Split_weightOf 4 (some .int) 4 [.ref s, .ref u, .int (nI b), .int (nI k)] S (Pi (fun S' r => Ex (fun a => a = s + 1 ∨ a = s + 3 ∨ a = s + 4) S S' ∧ r = nI (wgt e b k (xpn e b N)))) := by
  have hs0 := hs
  have hsep := hu.sepS hs
  obtain ⟨hS, ha1, ha2, -⟩ := hs
  refine mk_i (by decide) (eok l D cI cT) (by simp [Value.category]) (Nat.le_of_ble_eq_true rfl) (fun J X hR => ?_)
  show J S 0 [some (.ref s), some (.ref u), some (.int (nI b)), some (.int (nI k))] []
  refine r_aload_n X d_Split_weightOf_0 (by rfl) ?_
  refine r_aload_n X d_Split_weightOf_1 (by rfl) ?_
  refine r_iload_n X d_Split_weightOf_2 (by rfl) ?_
  refine r_cVv X lv_Split_33 (c_expandAt hs0 hu hN hE hb hu1) (by assumption) (by decide) rfl (Nat.le_of_ble_eq_true rfl) d_Split_weightOf_3 rfl (fun S1 h1 => ?_)
  obtain ⟨h1, hx⟩ := h1
  refine r_aload_n X d_Split_weightOf_6 (by rfl) ?_
  refine r_aload_n X d_Split_weightOf_7 (by rfl) ?_
  refine r_iload_n X d_Split_weightOf_8 (by rfl) ?_
  refine r_iload_n X d_Split_weightOf_9 (by rfl) ?_
  refine r_cVi X lv_Split_37 (c_expandedWeight hs0 hu hE hb hk (hu1.ex hx (fun a h1 h2 => by omega)) h1) (by assumption) (by decide) rfl (Nat.le_of_ble_eq_true rfl) d_Split_weightOf_10 rfl (fun S2 r h2 => ?_)
  obtain ⟨rfl, rfl⟩ := h2
  exact hR _ _ _ _ d_Split_weightOf_13 rfl ⟨_, rfl, hx, rfl⟩
set_option maxHeartbeats 4000000 in
set_option maxRecDepth 100000 in
theorem c_partIndex {b k : Nat} (hk : 1 ≤ k) : CT (mkE l D cI cT) G y_Split_partIndex b_Split_partIndex 2 (some .int) 0 [.int (nI b), .int (nI k)] S (Pi (fun S' r => S' = S ∧ r = nI (b * 3 + k - 1))) := by
  refine mk_i (by decide) (eok l D cI cT) (by simp [Value.category]) (Nat.le_of_ble_eq_true rfl) (fun J X hR => ?_)
  show J S 0 [some (.int (nI b)), some (.int (nI k))] []
  refine r_iload_n X d_Split_partIndex_0 (by rfl) ?_
  refine r_iconst X (x := (nI 3)) d_Split_partIndex_1 (by decide) ?_
  first | refine r_imulN X d_Split_partIndex_2 ?_ | refine r_imul X d_Split_partIndex_2 ?_
  refine r_iload_n X d_Split_partIndex_3 (by rfl) ?_
  first | refine r_iaddN X d_Split_partIndex_4 ?_ | refine r_iadd X d_Split_partIndex_4 ?_
  refine r_iconst X (x := (nI 1)) d_Split_partIndex_5 (by decide) ?_
  first | refine r_isubN X d_Split_partIndex_6 (by omega) ?_ | refine r_isub X d_Split_partIndex_6 ?_
  exact hR _ _ _ _ d_Split_partIndex_7 rfl ⟨_, rfl, rfl, rfl⟩
end S1
end
section
section S2
variable {l : Launch} {D : va_G} {cI cT : ClassId} {G : Gm} {S : Sg}
set_option maxHeartbeats 4000000 in
set_option maxRecDepth 100000 in
theorem c_mulPoles {q n a o k : Nat} {f e : Nat → Nat} (hp : isP G q n) (ha9 : G a = some (kArr 9)) (hqa : a + 1 ≤ q ∨ q + 2 ≤ a) (hf : okP n f) (hE : okE e) (hs : pIs S q n f) (he : S.1 a = e) (ho : o < 8) (hk : k ≤ e o) : CT (mkE l D cI cT) G y_Split_multiplyByPoles b_Split_multiplyByPoles 5 none 2 [.ref q, .ref a, .int (nI o), .int (nI k)] S (Pv (fun S' => pIs S' q n (wd n (va_up e o (e o - k)) 8 f) ∧ Out S S' q 2)) := by
  have hp0 := hp
  obtain ⟨hq, ha, hn2, hnn⟩ := hp
  refine mk_v (by decide) (eok l D cI cT) (by simp [Value.category]) (Nat.le_of_ble_eq_true rfl) (fun J X hR => ?_)
  show J S 0 [some (.ref q), some (.ref a), some (.int (nI o)), some (.int (nI k)), none] []
  have loop : ∀ j b S1, b + j = 8 → pIs S1 q n (wd n (va_up e o (e o - k)) b f) → Out S S1 q 2 → J S1 3 [some (.ref q), some (.ref a), some (.int (nI o)), some (.int (nI k)), some (.int (nI b))] [] := by
    intro j
    induction j with
    | zero =>
      intro b S1 hb h1 ho1
      have hb8 : b = 8 := by omega
      subst hb8
      refine r_iload X d_Split_multiplyByPoles_3 (by rfl) ?_
      refine r_bipush X (x := (nI 8)) d_Split_multiplyByPoles_5 (by decide) ?_
      refine r_icmp_geN X d_Split_multiplyByPoles_7 (tgt := 41) (by decide) (by omega) (by omega) (fun hc => ?_) (fun hc => ?_)
      · exact hR _ _ _ d_Split_multiplyByPoles_41 ⟨rfl, h1, ho1⟩
      · omega
    | succ j ih =>
      intro b S1 hb h1 ho1
      have e1 : S1.1 a b = e b := by rw [ho1.a1 (by omega), he]
      have h100 := hE.1 b
      have next : ∀ v, v = va_up e o (e o - k) b → J S1 32 [some (.ref q), some (.ref a), some (.int (nI o)), some (.int (nI k)), some (.int (nI b))] [.int (nI v), .int (nI b), .ref q] := by
        intro v hv
        have hv100 : v < 1000 := by
          rw [hv]
          unfold va_up
          split
          · have := hE.1 o; omega
          · omega
        refine r_cVv X lv_Split_121 (c_multiplyBy (b := b) (t := v) hp0 (wd_ok hf b) h1 (by omega) hv100) (by assumption) (by decide) rfl (Nat.le_of_ble_eq_true rfl) d_Split_multiplyByPoles_32 rfl (fun S2 h2 => ?_)
        obtain ⟨h2, ho2⟩ := h2
        refine r_iincN X 1 d_Split_multiplyByPoles_35 (by rfl) (by decide) (by decide) ?_
        refine r_goto X d_Split_multiplyByPoles_38 (tgt := 3) (by decide) ?_
        refine ih (b + 1) S2 (by omega) ?_ (ho1.trans ho2)
        rw [hv] at h2
        exact h2
      refine r_iload X d_Split_multiplyByPoles_3 (by rfl) ?_
      refine r_bipush X (x := (nI 8)) d_Split_multiplyByPoles_5 (by decide) ?_
      refine r_icmp_geN X d_Split_multiplyByPoles_7 (tgt := 41) (by decide) (by omega) (by omega) (fun hc => ?_) (fun hc => ?_)
      · omega
      · refine r_aload_n X d_Split_multiplyByPoles_10 (by rfl) ?_
        refine r_iload X d_Split_multiplyByPoles_11 (by rfl) ?_
        refine r_iload X d_Split_multiplyByPoles_13 (by rfl) ?_
        refine r_iload_n X d_Split_multiplyByPoles_15 (by rfl) ?_
        refine r_icmp_neN X d_Split_multiplyByPoles_16 (tgt := 28) (by decide) (by omega) (by omega) (fun hc => ?_) (fun hc => ?_)
        · refine r_aload_n X d_Split_multiplyByPoles_28 (by rfl) ?_
          refine r_iload X d_Split_multiplyByPoles_29 (by rfl) ?_
          refine r_iald X d_Split_multiplyByPoles_31 (by assumption) (by omega) (by omega) ?_
          rw [e1]
          exact next (e b) (by rw [va_up_n hc])
        · refine r_aload_n X d_Split_multiplyByPoles_19 (by rfl) ?_
          refine r_iload X d_Split_multiplyByPoles_20 (by rfl) ?_
          refine r_iald X d_Split_multiplyByPoles_22 (by assumption) (by omega) (by omega) ?_
          rw [e1]
          subst hc
          refine r_iload_n X d_Split_multiplyByPoles_23 (by rfl) ?_
          first | refine r_isubN X d_Split_multiplyByPoles_24 (by omega) ?_ | refine r_isub X d_Split_multiplyByPoles_24 ?_
          refine r_goto X d_Split_multiplyByPoles_25 (tgt := 32) (by decide) ?_
          exact next (e b - k) (by rw [va_up_s])
  refine r_iconst X (x := (nI 0)) d_Split_multiplyByPoles_0 (by decide) ?_
  refine r_istore X d_Split_multiplyByPoles_1 (by decide) ?_
  exact loop 8 0 S (by omega) hs (Out.rf _ _ _)
def dpw (z j : Nat) : Nat → Nat := va_up (mtN 64 1 j (lin 0 z)) j ((mtN 64 1 j (lin 0 z) j + 10006) % 10007)
theorem dpw_ok {z j : Nat} (hz : z < 10007) (hj : j < 64) : okP 64 (dpw z j) := by
  have h := mtN_ok (b := 1) (t := j) (lin_ok (n := 64) (a := 0) (b := z) (by decide) hz (by decide))
  refine ⟨fun i => ?_, fun i hi => ?_⟩
  · unfold dpw va_up
    split
    · exact Nat.mod_lt _ (by decide)
    · exact h.1 i
  · unfold dpw
    rw [va_up_n (by omega)]
    exact h.2 i hi
set_option maxHeartbeats 4000000 in
set_option maxRecDepth 100000 in
theorem c_setDiff {s z j : Nat} (hs : isS G s) (hz : z < 10007) (hj : j < 64) : CT (mkE l D cI cT) G y_Split_setDifferenceOfPower b_Split_setDifferenceOfPower 3 none 3 [.ref s, .int (nI z), .int (nI j)] S (Pv (fun S' => pIs S' (s + 5) 64 (dpw z j) ∧ Out S S' (s + 5) 2)) := by
  obtain ⟨hS, ha1, ha2, hpr, hps, hpw⟩ := hs
  have hps0 := hps
  obtain ⟨hqs, has, -, -⟩ := hps
  refine mk_v (by decide) (eok l D cI cT) (by simp [Value.category]) (Nat.le_of_ble_eq_true rfl) (fun J X hR => ?_)
  show J S 0 [some (.ref s), some (.int (nI z)), some (.int (nI j))] []
  refine r_aload_n X d_Split_setDifferenceOfPower_0 (by rfl) ?_
  refine r_get X lf_Split_27 d_Split_setDifferenceOfPower_1 (by assumption) (by rfl) ?_
  refine r_iconst X (x := (nI 0)) d_Split_setDifferenceOfPower_4 (by decide) ?_
  refine r_iload_n X d_Split_setDifferenceOfPower_5 (by rfl) ?_
  refine r_cVv X lv_Split_118 (c_setLinear (a := 0) (b := z) hps0 (by decide) hz) (by assumption) (by decide) rfl (Nat.le_of_ble_eq_true rfl) d_Split_setDifferenceOfPower_6 rfl (fun S1 h1 => ?_)
  obtain ⟨h1, ho1⟩ := h1
  have hl := lin_ok (n := 64) (a := 0) (b := z) (by decide) hz (by decide)
  refine r_aload_n X d_Split_setDifferenceOfPower_9 (by rfl) ?_
  refine r_get X lf_Split_27 d_Split_setDifferenceOfPower_10 (by assumption) (by rfl) ?_
  refine r_iconst X (x := (nI 1)) d_Split_setDifferenceOfPower_13 (by decide) ?_
  refine r_iload_n X d_Split_setDifferenceOfPower_14 (by rfl) ?_
  refine r_cVv X lv_Split_121 (c_multiplyBy (b := 1) (t := j) hps0 hl h1 (by decide) (by omega)) (by assumption) (by decide) rfl (Nat.le_of_ble_eq_true rfl) d_Split_setDifferenceOfPower_15 rfl (fun S2 h2 => ?_)
  obtain ⟨h2, ho2⟩ := h2
  have hok := mtN_ok (b := 1) (t := j) hl
  have b1 := hok.1 j
  refine r_aload_n X d_Split_setDifferenceOfPower_18 (by rfl) ?_
  refine r_get X lf_Split_27 d_Split_setDifferenceOfPower_19 (by assumption) (by rfl) ?_
  refine r_get X lf_Split_97 d_Split_setDifferenceOfPower_22 (by assumption) (by rfl) ?_
  refine r_iload_n X d_Split_setDifferenceOfPower_25 (by rfl) ?_
  refine r_aload_n X d_Split_setDifferenceOfPower_26 (by rfl) ?_
  refine r_get X lf_Split_27 d_Split_setDifferenceOfPower_27 (by assumption) (by rfl) ?_
  refine r_get X lf_Split_97 d_Split_setDifferenceOfPower_30 (by assumption) (by rfl) ?_
  refine r_iload_n X d_Split_setDifferenceOfPower_33 (by rfl) ?_
  refine r_iald X d_Split_setDifferenceOfPower_34 (by assumption) (by omega) (by omega) ?_
  rw [h2.1]
  refine r_iconst X (x := nI 1) d_Split_setDifferenceOfPower_35 (by decide) ?_
  refine r_isub X d_Split_setDifferenceOfPower_36 ?_
  refine r_cSi X ls_Split_73 c_of (by decide) rfl (Nat.le_of_ble_eq_true rfl) d_Split_setDifferenceOfPower_37 rfl (fun S3 r h3 => ?_)
  obtain ⟨rfl, rfl⟩ := h3
  rw [em_sub b1 (by decide)]
  refine r_iast X d_Split_setDifferenceOfPower_40 (by assumption) (by omega) (by omega) ?_
  refine r_aload_n X d_Split_setDifferenceOfPower_41 (by rfl) ?_
  refine r_get X lf_Split_27 d_Split_setDifferenceOfPower_42 (by assumption) (by rfl) ?_
  have e3 : (arS S3 (s + 5 + 1) (va_up (S3.1 (s + 5 + 1)) j ((mtN 64 1 j (lin 0 z) j + (10007 - 1)) % 10007))).1 (s + 5 + 1) = dpw z j := by
    rw [arS_1, h2.1]
    rfl
  have ho3 : Out S3 (arS S3 (s + 5 + 1) (va_up (S3.1 (s + 5 + 1)) j ((mtN 64 1 j (lin 0 z) j + (10007 - 1)) % 10007))) (s + 5) 2 := Out.ar (by omega) (by omega)
  revert e3 ho3
  generalize arS S3 (s + 5 + 1) (va_up (S3.1 (s + 5 + 1)) j ((mtN 64 1 j (lin 0 z) j + (10007 - 1)) % 10007)) = S4
  intro e3 ho3
  refine r_cVv X lv_Split_100 (c_trim hps0 (fun i _ => by rw [e3]; exact (dpw_ok hz hj).1 i)) (by assumption) (by decide) rfl (Nat.le_of_ble_eq_true rfl) d_Split_setDifferenceOfPower_45 rfl (fun S5 h5 => ?_)
  subst h5
  exact hR _ _ _ d_Split_setDifferenceOfPower_48 ⟨rfl, pIs_trim e3, ((ho1.trans ho2).trans ho3).trans (Out.fd (by omega) (by omega))⟩
theorem dq_32 {r : Nat} {f : Nat → Nat} (h : okP 32 f) : okP 32 (dq 64 r f) := ⟨(dq_ok 64 r f).1, fun i hi => hn_0 (fun j hj => h.2 j (by omega))⟩
theorem rdq_32 {r : Nat} {f : Nat → Nat} (h : okP 32 f) : ∀ k, okP 32 (rdq r k f)
  | 0 => h
  | k + 1 => dq_32 (rdq_32 h k)
def qdv (e : Nat → Nat) : Nat → (Nat → Nat) → Nat → Nat
  | 0, f => f
  | k + 1, f => rdq (rt k) (e k) (qdv e k f)
theorem qdv_32 {e : Nat → Nat} {f : Nat → Nat} (h : okP 32 f) : ∀ k, okP 32 (qdv e k f)
  | 0 => h
  | k + 1 => rdq_32 (qdv_32 h k) _
def pj (z i : Nat) : Nat := if z = 1 then i + 1 else i
def ld (z i : Nat) : Nat := if z = 1 then i + 1 else z - 1
def swh (z : Nat) : Nat → (Nat → Nat) → (Nat → Nat) → Nat → Nat
  | 0, _, X => X
  | i + 1, R, X => swh z i (ads 64 ((10007 - R i * iv (ld z i) % 10007) % 10007) R (dpw z (pj z i))) (va_up X (pj z i) (R i * iv (ld z i) % 10007))
set_option maxHeartbeats 8000000 in
set_option maxRecDepth 100000 in
theorem c_splitWhole {s u m z : Nat} {N e : Nat → Nat} (hs : isS G s) (hu : isT G u m) (hN : okP 32 N) (hm : 32 ≤ m) (hE : okE e) (hz0 : 0 < z) (hz : z < 10007) (hu1 : tIs S u m N e z) : CT (mkE l D cI cT) G y_Split_splitWhole b_Split_splitWhole 5 none 4 [.ref s, .ref u] S (Pv (fun S' => pIs S' (s + 7) 64 (swh z (tp (qdv e 8 N) 64) (qdv e 8 N) (fun _ => 0)) ∧ okP 64 (swh z (tp (qdv e 8 N) 64) (qdv e 8 N) (fun _ => 0)) ∧ Ex (fun a => s + 3 ≤ a ∧ a < s + 9) S S')) := by
  have hs0 := hs
  have hsep := hu.sepS hs
  obtain ⟨hS, ha1, ha2, hpr, hps, hpw⟩ := hs
  have hpr0 := hpr
  have hps0 := hps
  have hpw0 := hpw
  obtain ⟨hqr, har, -, -⟩ := hpr
  obtain ⟨hqs, has, -, -⟩ := hps
  obtain ⟨hqw, haw, -, -⟩ := hpw
  obtain ⟨hU, hpu, hue⟩ := hu
  have hpu0 := hpu
  obtain ⟨hqu, hau, hm2, hm64⟩ := hpu
  refine mk_v (by decide) (eok l D cI cT) (by simp [Value.category]) (Nat.le_of_ble_eq_true rfl) (fun J X hR => ?_)
  show J S 0 [some (.ref s), some (.ref u), none, none, none] []
  have hcutN : cut 64 N = N := cut_id (fun i hi => hN.2 i (by omega))
  have third : ∀ i R Xw v w S2, i ≤ 32 → okP 64 R → okP 64 Xw → pIs S2 (s + 3) 64 R → S2.1 (s + 8) = Xw → Ex (fun a => s + 3 ≤ a ∧ a < s + 9) S S2 → swh z i R Xw = swh z (tp (qdv e 8 N) 64) (qdv e 8 N) (fun _ => 0) → J S2 67 [some (.ref s), some (.ref u), some (.int (tI i)), v, w] [] := by
    intro i
    induction i with
    | zero =>
      intro R Xw v w S2 hi hR0 hX hp hw hx heq
      refine r_iload_n X d_Split_splitWhole_67 (by rfl) ?_
      refine r_if_ltT X d_Split_splitWhole_68 (tgt := 174) (by decide) (by omega) (fun hc => ?_) (fun u hc => ?_)
      · refine r_aload_n X d_Split_splitWhole_174 (by rfl) ?_
        refine r_get X lf_Split_30 d_Split_splitWhole_175 (by assumption) (by rfl) ?_
        refine r_cVv X lv_Split_100 (c_trim hpw0 (fun i _ => by rw [show s + 7 + 1 = s + 8 by omega, hw]; exact hX.1 i)) (by assumption) (by decide) rfl (Nat.le_of_ble_eq_true rfl) d_Split_splitWhole_178 rfl (fun S3 h3 => ?_)
        subst h3
        refine hR _ _ _ d_Split_splitWhole_181 ⟨rfl, ?_, ?_, ?_⟩
        · rw [← heq]
          exact pIs_trim hw
        · rw [← heq]
          exact hX
        · exact hx.trans ((Out.fd (q := s + 7) (w := 1) (by omega) (by omega)).ex (fun a h1 h2 => by omega))
      · omega
    | succ i ih =>
      intro R Xw v w S2 hi hR0 hX hp hw hx heq
      have hu2 := hu1.ex hx (fun a h1 h2 => by omega)
      have bR := hR0.1 i
      have hj : pj z i < 64 := by unfold pj; split <;> omega
      have hld : ld z i < 10007 := by unfold ld; split <;> omega
      have hc7 : R i * iv (ld z i) % 10007 < 10007 := Nat.mod_lt _ (by decide)
      have hml := mul_bd bR (iv_lt (ld z i))
      have fin : J S2 107 [some (.ref s), some (.ref u), some (.int (nI i)), some (.int (nI (pj z i))), some (.int (nI (ld z i)))] [] := by
        refine r_aload_n X d_Split_splitWhole_107 (by rfl) ?_
        refine r_get X lf_Split_30 d_Split_splitWhole_108 (by assumption) (by rfl) ?_
        refine r_get X lf_Split_97 d_Split_splitWhole_111 (by assumption) (by rfl) ?_
        refine r_iload_n X d_Split_splitWhole_114 (by rfl) ?_
        refine r_aload_n X d_Split_splitWhole_115 (by rfl) ?_
        refine r_get X lf_Split_23 d_Split_splitWhole_116 (by assumption) (by rfl) ?_
        refine r_get X lf_Split_97 d_Split_splitWhole_119 (by assumption) (by rfl) ?_
        refine r_iload_n X d_Split_splitWhole_122 (by rfl) ?_
        refine r_iald X d_Split_splitWhole_123 (by assumption) (by omega) (by omega) ?_
        rw [hp.1]
        refine r_iload X d_Split_splitWhole_124 (by rfl) ?_
        refine r_cSi X ls_Split_81 (c_invert hld) (by decide) rfl (Nat.le_of_ble_eq_true rfl) d_Split_splitWhole_126 rfl (fun S3 r h3 => ?_)
        obtain ⟨rfl, rfl⟩ := h3
        first | refine r_imulN X d_Split_splitWhole_129 ?_ | refine r_imul X d_Split_splitWhole_129 ?_
        refine r_sipush X (x := (nI 10007)) d_Split_splitWhole_130 (by decide) ?_
        refine r_iremN X d_Split_splitWhole_133 (by decide) (by decide) (by omega) ?_
        refine r_iast X d_Split_splitWhole_134 (by assumption) (by omega) (by omega) ?_
        have hX2 : okP 64 (va_up Xw (pj z i) (R i * iv (ld z i) % 10007)) := by
          refine ⟨fun k => ?_, fun k hk => ?_⟩
          · unfold va_up
            split
            · exact hc7
            · exact hX.1 k
          · rw [va_up_n (by omega)]
            exact hX.2 k hk
        have ho4 : Out S3 (arS S3 (s + 7 + 1) (va_up (S3.1 (s + 7 + 1)) (pj z i) (R i * iv (ld z i) % 10007))) (s + 8) 1 := Out.ar (by omega) (by omega)
        have e4 : (arS S3 (s + 7 + 1) (va_up (S3.1 (s + 7 + 1)) (pj z i) (R i * iv (ld z i) % 10007))).1 (s + 8) = va_up Xw (pj z i) (R i * iv (ld z i) % 10007) := by
          rw [show s + 8 = s + 7 + 1 by omega, arS_1]
          rw [show s + 7 + 1 = s + 8 by omega, hw]
        revert ho4 e4
        generalize arS S3 (s + 7 + 1) (va_up (S3.1 (s + 7 + 1)) (pj z i) (R i * iv (ld z i) % 10007)) = S4
        intro ho4 e4
        have hu4 := hu2.out ho4 (by omega)
        have hp4 := hp.out ho4 (by omega)
        refine r_aload_n X d_Split_splitWhole_135 (by rfl) ?_
        refine r_aload_n X d_Split_splitWhole_136 (by rfl) ?_
        refine r_get X lf_Split_49 d_Split_splitWhole_137 (by assumption) (by rfl) ?_
        rw [hu4.2.2]
        refine r_iload_n X d_Split_splitWhole_140 (by rfl) ?_
        refine r_cVv X lv_Split_110 (c_setDiff hs0 hz hj) (by assumption) (by decide) rfl (Nat.le_of_ble_eq_true rfl) d_Split_splitWhole_141 rfl (fun S5 h5 => ?_)
        obtain ⟨h5, ho5⟩ := h5
        have hp5 := hp4.out ho5 (by omega)
        have e5 : S5.1 (s + 8) = va_up Xw (pj z i) (R i * iv (ld z i) % 10007) := by rw [ho5.a1 (by omega), e4]
        refine r_aload_n X d_Split_splitWhole_144 (by rfl) ?_
        refine r_get X lf_Split_23 d_Split_splitWhole_145 (by assumption) (by rfl) ?_
        refine r_aload_n X d_Split_splitWhole_148 (by rfl) ?_
        refine r_get X lf_Split_27 d_Split_splitWhole_149 (by assumption) (by rfl) ?_
        refine r_aload_n X d_Split_splitWhole_152 (by rfl) ?_
        refine r_get X lf_Split_30 d_Split_splitWhole_153 (by assumption) (by rfl) ?_
        refine r_get X lf_Split_97 d_Split_splitWhole_156 (by assumption) (by rfl) ?_
        refine r_iload_n X d_Split_splitWhole_159 (by rfl) ?_
        refine r_iald X d_Split_splitWhole_160 (by assumption) (by omega) (by omega) ?_
        rw [show s + 7 + 1 = s + 8 by omega, e5, va_up_s]
        refine r_ineg X d_Split_splitWhole_161 ?_
        refine r_cSi X ls_Split_73 c_of (by decide) rfl (Nat.le_of_ble_eq_true rfl) d_Split_splitWhole_162 rfl (fun S6 r h6 => ?_)
        obtain ⟨rfl, rfl⟩ := h6
        rw [em_neg hc7]
        refine r_cVv X lv_Split_114 (c_addScaled (c := (10007 - R i * iv (ld z i) % 10007) % 10007) hpr0 hps0 (by omega) hR0 (dpw_ok hz hj) hp5.1 h5.1 (Nat.mod_lt _ (by decide))) (by assumption) (by decide) rfl (Nat.le_of_ble_eq_true rfl) d_Split_splitWhole_165 rfl (fun S7 h7 => ?_)
        obtain ⟨h7, ho7⟩ := h7
        refine r_iincD X d_Split_splitWhole_168 (by rfl) (by decide) ?_
        refine r_goto X d_Split_splitWhole_171 (tgt := 67) (by decide) ?_
        refine ih _ _ _ _ S7 (by omega) (ads_ok 64 _ _ _) hX2 h7 (by rw [ho7.a1 (by omega)]; exact e5) ?_ heq
        exact ((hx.trans (ho4.ex (fun a h1 h2 => by omega))).trans (ho5.ex (fun a h1 h2 => by omega))).trans (ho7.ex (fun a h1 h2 => by omega))
      have mid : J S2 87 [some (.ref s), some (.ref u), some (.int (nI i)), some (.int (nI (pj z i))), w] [] := by
        refine r_aload_n X d_Split_splitWhole_87 (by rfl) ?_
        refine r_get X lf_Split_49 d_Split_splitWhole_88 (by assumption) (by rfl) ?_
        rw [hu2.2.2]
        refine r_iconst X (x := nI 1) d_Split_splitWhole_91 (by decide) ?_
        refine r_icmp_neN X d_Split_splitWhole_92 (tgt := 99) (by decide) (by omega) (by omega) (fun hc => ?_) (fun hc => ?_)
        · refine r_aload_n X d_Split_splitWhole_99 (by rfl) ?_
          refine r_get X lf_Split_49 d_Split_splitWhole_100 (by assumption) (by rfl) ?_
          rw [hu2.2.2]
          refine r_iconst X (x := (nI 1)) d_Split_splitWhole_103 (by decide) ?_
          first | refine r_isubN X d_Split_splitWhole_104 (by omega) ?_ | refine r_isub X d_Split_splitWhole_104 ?_
          refine r_istore X d_Split_splitWhole_105 (by decide) ?_
          have e1 : ld z i = z - 1 := by unfold ld; rw [if_neg hc]
          rw [← e1]
          exact fin
        · refine r_iload_n X d_Split_splitWhole_95 (by rfl) ?_
          refine r_goto X d_Split_splitWhole_96 (tgt := 105) (by decide) ?_
          refine r_istore X d_Split_splitWhole_105 (by decide) ?_
          have e1 : pj z i = ld z i := by unfold ld pj; rw [if_pos hc, if_pos hc]
          have fin' := fin
          rw [← e1] at fin'
          exact fin'
      refine r_iload_n X d_Split_splitWhole_67 (by rfl) ?_
      refine r_if_ltT X d_Split_splitWhole_68 (tgt := 174) (by decide) (by omega) (fun hc => ?_) (fun u hc => ?_)
      · omega
      · rw [tI_s]
        refine r_aload_n X d_Split_splitWhole_71 (by rfl) ?_
        refine r_get X lf_Split_49 d_Split_splitWhole_72 (by assumption) (by rfl) ?_
        rw [hu2.2.2]
        refine r_iconst X (x := nI 1) d_Split_splitWhole_75 (by decide) ?_
        refine r_icmp_neN X d_Split_splitWhole_76 (tgt := 85) (by decide) (by omega) (by omega) (fun hc => ?_) (fun hc => ?_)
        · refine r_iload_n X d_Split_splitWhole_85 (by rfl) ?_
          refine r_istore_n X d_Split_splitWhole_86 (by decide) ?_
          have e1 : pj z i = i := by unfold pj; rw [if_neg hc]
          have mid' := mid
          rw [e1] at mid'
          exact mid'
        · refine r_iload_n X d_Split_splitWhole_79 (by rfl) ?_
          refine r_iconst X (x := (nI 1)) d_Split_splitWhole_80 (by decide) ?_
          first | refine r_iaddN X d_Split_splitWhole_81 ?_ | refine r_iadd X d_Split_splitWhole_81 ?_
          refine r_goto X d_Split_splitWhole_82 (tgt := 86) (by decide) ?_
          refine r_istore_n X d_Split_splitWhole_86 (by decide) ?_
          have e1 : pj z i = i + 1 := by unfold pj; rw [if_pos hc]
          have mid' := mid
          rw [e1] at mid'
          exact mid'
  have second : ∀ j b v S2, b + j = 8 → pIs S2 (s + 3) 64 (qdv e b N) → Ex (fun a => s + 3 ≤ a ∧ a < s + 9) S S2 → J S2 13 [some (.ref s), some (.ref u), some (.int (nI b)), v, none] [] := by
    intro j
    induction j with
    | zero =>
      intro b v S2 hb hp hx
      have hb8 : b = 8 := by omega
      subst hb8
      refine r_iload_n X d_Split_splitWhole_13 (by rfl) ?_
      refine r_bipush X (x := (nI 8)) d_Split_splitWhole_14 (by decide) ?_
      refine r_icmp_geN X d_Split_splitWhole_16 (tgt := 52) (by decide) (by omega) (by omega) (fun hc => ?_) (fun hc => ?_)
      · refine r_aload_n X d_Split_splitWhole_52 (by rfl) ?_
        refine r_get X lf_Split_30 d_Split_splitWhole_53 (by assumption) (by rfl) ?_
        refine r_cVv X lv_Split_106 (c_clear hpw0) (by assumption) (by decide) rfl (Nat.le_of_ble_eq_true rfl) d_Split_splitWhole_56 rfl (fun S3 h3 => ?_)
        obtain ⟨h3, ho3⟩ := h3
        have hp3 := hp.out ho3 (by omega)
        have hq32 := qdv_32 (e := e) hN 8
        have htp : tp (qdv e 8 N) 64 ≤ 32 := by
          rw [show (64 : Nat) = 32 + 32 by rfl, tp_more 32 hq32.2]
          exact tp_le _ _
        refine r_aload_n X d_Split_splitWhole_59 (by rfl) ?_
        refine r_get X lf_Split_23 d_Split_splitWhole_60 (by assumption) (by rfl) ?_
        refine r_get X lf_Split_107 d_Split_splitWhole_63 (by assumption) (by rfl) ?_
        refine r_int hp3.2 ?_
        refine r_istore_n X d_Split_splitWhole_66 (by decide) ?_
        exact third _ _ (fun _ => 0) _ _ S3 htp (hq32.mono (by omega)) ⟨fun _ => (by decide : 0 < 10007), fun _ _ => rfl⟩ hp3 h3.1 (hx.trans (ho3.ex (fun a h1 h2 => by omega))) rfl
      · omega
    | succ j ih =>
      intro b v S2 hb hp hx
      have h100 := hE.1 b
      have inner : ∀ d k S3, k + d = e b → pIs S3 (s + 3) 64 (rdq (rt b) k (qdv e b N)) → Ex (fun a => s + 3 ≤ a ∧ a < s + 9) S S3 → J S3 21 [some (.ref s), some (.ref u), some (.int (nI b)), some (.int (nI k)), none] [] := by
        intro d
        induction d with
        | zero =>
          intro k S3 hk hp3 hx3
          have hu3 := hu1.ex hx3 (fun a h1 h2 => by omega)
          refine r_iload_n X d_Split_splitWhole_21 (by rfl) ?_
          refine r_aload_n X d_Split_splitWhole_22 (by rfl) ?_
          refine r_get X lf_Split_70 d_Split_splitWhole_23 (by assumption) (by rfl) ?_
          refine r_iload_n X d_Split_splitWhole_26 (by rfl) ?_
          refine r_iald X d_Split_splitWhole_27 (by assumption) (by omega) (by omega) ?_
          rw [hu3.2.1]
          refine r_icmp_geN X d_Split_splitWhole_28 (tgt := 46) (by decide) (by omega) (by omega) (fun hc => ?_) (fun hc => ?_)
          · refine r_iincN X 1 d_Split_splitWhole_46 (by rfl) (by decide) (by decide) ?_
            refine r_goto X d_Split_splitWhole_49 (tgt := 13) (by decide) ?_
            refine ih (b + 1) _ S3 (by omega) ?_ hx3
            rw [show k = e b by omega] at hp3
            exact hp3
          · omega
        | succ d ihd =>
          intro k S3 hk hp3 hx3
          have hu3 := hu1.ex hx3 (fun a h1 h2 => by omega)
          refine r_iload_n X d_Split_splitWhole_21 (by rfl) ?_
          refine r_aload_n X d_Split_splitWhole_22 (by rfl) ?_
          refine r_get X lf_Split_70 d_Split_splitWhole_23 (by assumption) (by rfl) ?_
          refine r_iload_n X d_Split_splitWhole_26 (by rfl) ?_
          refine r_iald X d_Split_splitWhole_27 (by assumption) (by omega) (by omega) ?_
          rw [hu3.2.1]
          refine r_icmp_geN X d_Split_splitWhole_28 (tgt := 46) (by decide) (by omega) (by omega) (fun hc => ?_) (fun hc => ?_)
          · omega
          · refine r_aload_n X d_Split_splitWhole_31 (by rfl) ?_
            refine r_get X lf_Split_23 d_Split_splitWhole_32 (by assumption) (by rfl) ?_
            refine r_iload_n X d_Split_splitWhole_35 (by rfl) ?_
            refine r_cVi X lv_Split_66 (c_divideBy (b := b) hpr0 ((rdq_32 (qdv_32 hN b) k).mono (by omega)) hp3 (by omega)) (by assumption) (by decide) rfl (Nat.le_of_ble_eq_true rfl) d_Split_splitWhole_36 rfl (fun S4 r h4 => ?_)
            obtain ⟨⟨h4, ho4⟩, rfl⟩ := h4
            refine r_pop X d_Split_splitWhole_39 (by rfl) ?_
            refine r_iincN X 1 d_Split_splitWhole_40 (by rfl) (by decide) (by decide) ?_
            refine r_goto X d_Split_splitWhole_43 (tgt := 21) (by decide) ?_
            exact ihd (k + 1) S4 (by omega) h4 (hx3.trans (ho4.ex (fun a h1 h2 => by omega)))
      refine r_iload_n X d_Split_splitWhole_13 (by rfl) ?_
      refine r_bipush X (x := (nI 8)) d_Split_splitWhole_14 (by decide) ?_
      refine r_icmp_geN X d_Split_splitWhole_16 (tgt := 52) (by decide) (by omega) (by omega) (fun hc => ?_) (fun hc => ?_)
      · omega
      · refine r_iconst X (x := (nI 0)) d_Split_splitWhole_19 (by decide) ?_
        refine r_istore_n X d_Split_splitWhole_20 (by decide) ?_
        exact inner (e b) 0 S2 (by omega) hp hx
  refine r_aload_n X d_Split_splitWhole_0 (by rfl) ?_
  refine r_get X lf_Split_23 d_Split_splitWhole_1 (by assumption) (by rfl) ?_
  refine r_aload_n X d_Split_splitWhole_4 (by rfl) ?_
  refine r_get X lf_Split_59 d_Split_splitWhole_5 (by assumption) (by rfl) ?_
  refine r_cVv X lv_Split_62 (c_copyFrom hpr0 hpu0 (by omega) (hN.mono hm) hu1.1.1) (by assumption) (by decide) rfl (Nat.le_of_ble_eq_true rfl) d_Split_splitWhole_8 rfl (fun S1 h1 => ?_)
  obtain ⟨h1, ho1⟩ := h1
  rw [hcutN] at h1
  refine r_iconst X (x := (nI 0)) d_Split_splitWhole_11 (by decide) ?_
  refine r_istore_n X d_Split_splitWhole_12 (by decide) ?_
  exact second 8 0 _ S1 (by omega) h1 (ho1.ex (fun a h1 h2 => by omega))
end S2
end
section
section S3
variable {l : Launch} {D : va_G} {cI cT : ClassId} {G : Gm} {S : Sg}
def ptr (zi : Nat) (w : Nat → Nat → Nat) : Nat → Nat → Nat
  | 0, _ => 0
  | d + 1, k => (w (7 - d) k + ptr zi w d k) % 10007 * zi % 10007
theorem ptr_lt (zi : Nat) (w : Nat → Nat → Nat) (d k : Nat) : ptr zi w d k < 10007 := by
  cases d with
  | zero => exact (by decide : 0 < 10007)
  | succ d => exact Nat.mod_lt _ (by decide)
def wgc (e N : Nat → Nat) (b k : Nat) : Nat := wgt e b k (xpn e b N)
theorem wgc_lt (e N : Nat → Nat) (b k : Nat) : wgc e N b k < 10007 := by
  unfold wgc wgt
  split
  · exact (xpn_ok e b N).1 _
  · decide
def pfn (zi : Nat) (w : Nat → Nat → Nat) : Nat → Nat := fun j => if j < 24 then ptr zi w (7 - j / 3) (j % 3 + 1) else 0
theorem pfn_ok (zi : Nat) (w : Nat → Nat → Nat) : okP 24 (pfn zi w) := by
  refine ⟨fun i => ?_, fun i hi => ?_⟩
  · unfold pfn
    split
    · exact ptr_lt _ _ _ _
    · decide
  · unfold pfn
    rw [if_neg (by omega)]
theorem pfn_at {zi : Nat} {w : Nat → Nat → Nat} {b k : Nat} (hb : b < 8) (hk1 : 1 ≤ k) (hk : k ≤ 3) : pfn zi w (b * 3 + k - 1) = ptr zi w (7 - b) k := by
  unfold pfn
  rw [if_pos (by omega), show (b * 3 + k - 1) / 3 = b by omega, show (b * 3 + k - 1) % 3 + 1 = k by omega]
def rmw (zi : Nat) (w : Nat → Nat → Nat) : Nat → Nat := fun i => if i < 3 then (w 0 (3 - i) + ptr zi w 7 (3 - i)) % 10007 else 0
theorem rmw_ok (zi : Nat) (w : Nat → Nat → Nat) : okP 64 (rmw zi w) := by
  refine ⟨fun i => ?_, fun i hi => ?_⟩
  · unfold rmw
    split
    · exact Nat.mod_lt _ (by decide)
    · decide
  · unfold rmw
    rw [if_neg (by omega)]
def e30 : Nat → Nat := fun i => if i = 0 then 3 else 0
theorem e30_ok : okE e30 := ⟨fun i => by unfold e30; split <;> decide, fun i hi => by unfold e30; rw [if_neg (by omega)]⟩
set_option maxHeartbeats 8000000 in
set_option maxRecDepth 100000 in
theorem c_splitPoles {s u m t z y : Nat} {N e : Nat → Nat} (hs : isS G s) (hu : isT G u m) (ht : isT G t 64) (htu : t ≠ u) (hN : okP m N) (hE : okE e) (hz : z < 10007) (hu1 : tIs S u m N e z) : CT (mkE l D cI cT) G y_Split_splitPoles b_Split_splitPoles 7 none 4 [.ref s, .ref u, .ref t] S (Pv (fun S' => tIs S' t 64 (nrN 64 (rmw (iv z) (wgc e N)) e30) (nrE 64 (rmw (iv z) (wgc e N)) e30) (nrZ 64 (rmw (iv z) (wgc e N)) z) ∧ S'.1 (s + 2) = pfn (iv z) (wgc e N) ∧ Ex (fun a => (s + 1 ≤ a ∧ a < s + 5) ∨ (t ≤ a ∧ a < t + 4)) S S')) := by
  have hs0 := hs
  have hu0 := hu
  have ht0 := ht
  have hsu := hu.sepS hs
  have hst := ht.sepS hs
  have htu' := ht.sep hu htu
  obtain ⟨hS, ha1, ha2, hpr, hps, hpw⟩ := hs
  obtain ⟨hU, hpu, hue⟩ := hu
  obtain ⟨hT, hpt, hte⟩ := ht
  have hpt0 := hpt
  obtain ⟨hqt, hat, -, -⟩ := hpt
  refine mk_v (by decide) (eok l D cI cT) (by simp [Value.category]) (Nat.le_of_ble_eq_true rfl) (fun J X hR => ?_)
  show J S 0 [some (.ref s), some (.ref u), some (.ref t), none, none, none, none] []
  have hzi := iv_lt z
  have hw := wgc_lt e N
  have hpl := ptr_lt (iv z) (wgc e N)
  have main : ∀ b1 v w S2, b1 ≤ 8 → (∀ b k, b < 8 → 1 ≤ k → k ≤ 3 → S2.1 (s + 2) (b * 3 + k - 1) = if b1 ≤ b + 1 then ptr (iv z) (wgc e N) (7 - b) k else 0) → S2.1 (t + 2) = (if b1 = 0 then rmw (iv z) (wgc e N) else fun _ => 0) → S2.1 (t + 3) = e30 → S2.2 t = nI z → Ex (fun a => (s + 1 ≤ a ∧ a < s + 5) ∨ (t ≤ a ∧ a < t + 4)) S S2 → J S2 39 [some (.ref s), some (.ref u), some (.ref t), some (.int (nI (iv z))), some (.int (tI b1)), v, w] [] := by
    intro b1
    induction b1 with
    | zero =>
      intro v w S2 hb1 hpar hrow hexp hz2 hx
      refine r_iload X d_Split_splitPoles_39 (by rfl) ?_
      refine r_if_ltT X d_Split_splitPoles_41 (tgt := 144) (by decide) (by omega) (fun hc => ?_) (fun uu hc => ?_)
      · refine r_trunc X (f := pfn (iv z) (wgc e N)) ha2 (fun i hi => ?_) ?_
        · have := hpar (i / 3) (i % 3 + 1) (by omega) (by omega) (by omega)
          rw [show i / 3 * 3 + (i % 3 + 1) - 1 = i by omega, if_pos (by omega)] at this
          rw [this]
          unfold pfn
          rw [if_pos hi]
        · have ho3 : Out S2 (arS S2 (s + 2) (pfn (iv z) (wgc e N))) (s + 2) 1 := Out.ar (by omega) (by omega)
          have e3 : (arS S2 (s + 2) (pfn (iv z) (wgc e N))).1 (s + 2) = pfn (iv z) (wgc e N) := arS_1 _ _ _
          revert ho3 e3
          generalize arS S2 (s + 2) (pfn (iv z) (wgc e N)) = S3
          intro ho3 e3
          have hrow3 : S3.1 (t + 1 + 1) = rmw (iv z) (wgc e N) := by rw [show t + 1 + 1 = t + 2 by omega, ho3.a1 (by omega), hrow, if_pos rfl]
          refine r_aload_n X d_Split_splitPoles_144 (by rfl) ?_
          refine r_get X lf_Split_59 d_Split_splitPoles_145 (by assumption) (by rfl) ?_
          refine r_cVv X lv_Split_100 (c_trim hpt0 (fun i _ => by rw [hrow3]; exact (rmw_ok _ _).1 i)) (by assumption) (by decide) rfl (Nat.le_of_ble_eq_true rfl) d_Split_splitPoles_148 rfl (fun S4 h4 => ?_)
          have hp4 : pIs S4 (t + 1) 64 (rmw (iv z) (wgc e N)) := by rw [h4]; exact pIs_trim hrow3
          have ho4 : Out S3 S4 (t + 1) 1 := by rw [h4]; exact Out.fd (by omega) (by omega)
          have ht4 : tIs S4 t 64 (rmw (iv z) (wgc e N)) e30 z := ⟨hp4, by rw [ho4.a1 (by omega), ho3.a1 (by omega)]; exact hexp, by rw [ho4.a2 (by omega), ho3.a2 (by omega)]; exact hz2⟩
          refine r_aload_n X d_Split_splitPoles_151 (by rfl) ?_
          refine r_cVv X lv_Split_103 (c_normalise ht0 (rmw_ok _ _) e30_ok ht4) (by assumption) (by decide) rfl (Nat.le_of_ble_eq_true rfl) d_Split_splitPoles_152 rfl (fun S5 h5 => ?_)
          obtain ⟨h5, ho5⟩ := h5
          refine hR _ _ _ d_Split_splitPoles_155 ⟨rfl, h5, ?_, ?_⟩
          · rw [ho5.a1 (by omega), ho4.a1 (by omega)]
            exact e3
          · exact ((hx.trans (ho3.ex (fun a h1 h2 => by omega))).trans (ho4.ex (fun a h1 h2 => by omega))).trans (ho5.ex (fun a h1 h2 => by omega))
      · omega
    | succ b ih =>
      intro v w S2 hb1 hpar hrow hexp hz2 hx
      refine r_iload X d_Split_splitPoles_39 (by rfl) ?_
      refine r_if_ltT X d_Split_splitPoles_41 (tgt := 144) (by decide) (by omega) (fun hc => ?_) (fun uu hc => ?_)
      · omega
      · rw [tI_s]
        have hu2 := hu1.ex hx (fun a h1 h2 => by omega)
        rw [if_neg (by omega)] at hrow
        refine r_aload_n X d_Split_splitPoles_44 (by rfl) ?_
        refine r_aload_n X d_Split_splitPoles_45 (by rfl) ?_
        refine r_iload X d_Split_splitPoles_46 (by rfl) ?_
        refine r_cVv X lv_Split_33 (c_expandAt hs0 hu0 hN hE (by omega) hu2) (by assumption) (by decide) rfl (Nat.le_of_ble_eq_true rfl) d_Split_splitPoles_48 rfl (fun S3 h3 => ?_)
        obtain ⟨h3, hx3⟩ := h3
        have inner : ∀ d k v S4, k + d = 4 → 1 ≤ k → S4.1 (s + 1) = xpn e b N → (∀ b' k', b' < 8 → 1 ≤ k' → k' ≤ 3 → S4.1 (s + 2) (b' * 3 + k' - 1) = if b ≤ b' ∨ (b = b' + 1 ∧ k' < k) then ptr (iv z) (wgc e N) (7 - b') k' else 0) → (S4.1 (t + 2) = if b = 0 then (fun i => if 4 - k ≤ i then rmw (iv z) (wgc e N) i else 0) else fun _ => 0) → S4.1 (t + 3) = e30 → S4.2 t = nI z → Ex (fun a => (s + 1 ≤ a ∧ a < s + 5) ∨ (t ≤ a ∧ a < t + 4)) S S4 → J S4 54 [some (.ref s), some (.ref u), some (.ref t), some (.int (nI (iv z))), some (.int (nI b)), some (.int (nI k)), v] [] := by
          intro d
          induction d with
          | zero =>
            intro k v S4 hk hk1 hser hpar4 hrow4 hexp4 hz4 hx4
            have hk4 : k = 4 := by omega
            subst hk4
            refine r_iload X d_Split_splitPoles_54 (by rfl) ?_
            refine r_iconst X (x := (nI 3)) d_Split_splitPoles_56 (by decide) ?_
            refine r_icmp_gtN X d_Split_splitPoles_57 (tgt := 138) (by decide) (by omega) (by omega) (fun hc => ?_) (fun hc => ?_)
            · refine r_iincD X d_Split_splitPoles_138 (by rfl) (by decide) ?_
              refine r_goto X d_Split_splitPoles_141 (tgt := 39) (by decide) ?_
              refine ih _ _ S4 (by omega) ?_ ?_ hexp4 hz4 hx4
              · intro b' k' h1 h2 h3
                rw [hpar4 b' k' h1 h2 h3]
                by_cases h : b ≤ b' + 1
                · rw [if_pos h, if_pos (by omega)]
                · rw [if_neg h, if_neg (by omega)]
              · rw [hrow4]
                split
                · funext i
                  simp
                · rfl
            · omega
          | succ d ihd =>
            intro k v S4 hk hk1 hser hpar4 hrow4 hexp4 hz4 hx4
            have hu4 := hu1.ex hx4 (fun a h1 h2 => by omega)
            have hwb := hw b k
            have hpb := hpl (7 - b) k
            refine r_iload X d_Split_splitPoles_54 (by rfl) ?_
            refine r_iconst X (x := (nI 3)) d_Split_splitPoles_56 (by decide) ?_
            refine r_icmp_gtN X d_Split_splitPoles_57 (tgt := 138) (by decide) (by omega) (by omega) (fun hc => ?_) (fun hc => ?_)
            · omega
            · refine r_aload_n X d_Split_splitPoles_60 (by rfl) ?_
              refine r_aload_n X d_Split_splitPoles_61 (by rfl) ?_
              refine r_iload X d_Split_splitPoles_62 (by rfl) ?_
              refine r_iload X d_Split_splitPoles_64 (by rfl) ?_
              refine r_cVi X lv_Split_37 (c_expandedWeight (b := b) (k := k) hs0 hu0 hE (by omega) (by omega) hu4 hser) (by assumption) (by decide) rfl (Nat.le_of_ble_eq_true rfl) d_Split_splitPoles_66 rfl (fun S5 r h5 => ?_)
              obtain ⟨rfl, rfl⟩ := h5
              refine r_aload_n X d_Split_splitPoles_69 (by rfl) ?_
              refine r_get X lf_Split_15 d_Split_splitPoles_70 (by assumption) (by rfl) ?_
              refine r_iload X d_Split_splitPoles_73 (by rfl) ?_
              refine r_iload X d_Split_splitPoles_75 (by rfl) ?_
              refine r_cSi X ls_Split_93 (c_partIndex (b := b) (k := k) hk1) (by decide) rfl (Nat.le_of_ble_eq_true rfl) d_Split_splitPoles_77 rfl (fun S6 r h6 => ?_)
              obtain ⟨rfl, rfl⟩ := h6
              have e6 : S6.1 (s + 2) (b * 3 + k - 1) = ptr (iv z) (wgc e N) (7 - b) k := by rw [hpar4 b k (by omega) hk1 (by omega), if_pos (by omega)]
              have e7 : wgt e b k (xpn e b N) = wgc e N b k := rfl
              refine r_iald X d_Split_splitPoles_80 (by assumption) (by omega) (by omega) ?_
              rw [e6, e7]
              first | refine r_iaddN X d_Split_splitPoles_81 ?_ | refine r_iadd X d_Split_splitPoles_81 ?_
              refine r_sipush X (x := (nI 10007)) d_Split_splitPoles_82 (by decide) ?_
              refine r_iremN X d_Split_splitPoles_85 (by decide) (by decide) (by omega) ?_
              refine r_istore X d_Split_splitPoles_86 (by decide) ?_
              refine r_iload X d_Split_splitPoles_88 (by rfl) ?_
              refine r_if_leN X d_Split_splitPoles_90 (tgt := 118) (by decide) (by omega) (fun hc => ?_) (fun hc => ?_)
              · refine r_aload_n X d_Split_splitPoles_118 (by rfl) ?_
                refine r_get X lf_Split_59 d_Split_splitPoles_119 (by assumption) (by rfl) ?_
                refine r_get X lf_Split_97 d_Split_splitPoles_122 (by assumption) (by rfl) ?_
                refine r_iconst X (x := (nI 3)) d_Split_splitPoles_125 (by decide) ?_
                refine r_iload X d_Split_splitPoles_126 (by rfl) ?_
                first | refine r_isubN X d_Split_splitPoles_128 (by omega) ?_ | refine r_isub X d_Split_splitPoles_128 ?_
                refine r_iload X d_Split_splitPoles_129 (by rfl) ?_
                refine r_iast X d_Split_splitPoles_131 (by assumption) (by omega) (by omega) ?_
                refine r_iincN X 1 d_Split_splitPoles_132 (by rfl) (by decide) (by decide) ?_
                refine r_goto X d_Split_splitPoles_135 (tgt := 54) (by decide) ?_
                refine ihd (k + 1) _ _ (by omega) (by omega) ?_ ?_ ?_ ?_ ?_ ?_
                · rw [arS_1n (by omega)]; exact hser
                · intro b' k' h1 h2 h3
                  rw [arS_1n (by omega), hpar4 b' k' h1 h2 h3]
                  by_cases h : b ≤ b'
                  · rw [if_pos (Or.inl h), if_pos (Or.inl h)]
                  · omega
                · rw [show t + 2 = t + 1 + 1 by omega, arS_1]
                  rw [show t + 1 + 1 = t + 2 by omega, hrow4, if_pos hc, if_pos hc]
                  funext i
                  unfold va_up
                  by_cases hi : i = 3 - k
                  · rw [if_pos hi, if_pos (by omega)]
                    unfold rmw
                    rw [if_pos (by omega), hi, show 3 - (3 - k) = k by omega, hc]
                  · rw [if_neg hi]
                    show (if 4 - k ≤ i then rmw (iv z) (wgc e N) i else 0) = _
                    by_cases h2 : 4 - k ≤ i
                    · rw [if_pos h2, if_pos (by omega)]
                    · rw [if_neg h2, if_neg (by omega)]
                · rw [arS_1n (by omega)]; exact hexp4
                · rw [arS_2]; exact hz4
                · exact hx4.trans ((Out.ar (q := t + 2) (w := 1) (by omega) (by omega)).ex (fun a h1 h2 => by omega))
              · have hm := mul_bd (Nat.mod_lt (wgc e N b k + ptr (iv z) (wgc e N) (7 - b) k) (by decide : 0 < 10007)) hzi
                refine r_aload_n X d_Split_splitPoles_93 (by rfl) ?_
                refine r_get X lf_Split_15 d_Split_splitPoles_94 (by assumption) (by rfl) ?_
                refine r_iload X d_Split_splitPoles_97 (by rfl) ?_
                refine r_iconst X (x := (nI 1)) d_Split_splitPoles_99 (by decide) ?_
                first | refine r_isubN X d_Split_splitPoles_100 (by omega) ?_ | refine r_isub X d_Split_splitPoles_100 ?_
                refine r_iload X d_Split_splitPoles_101 (by rfl) ?_
                refine r_cSi X ls_Split_93 (c_partIndex (b := b - 1) (k := k) hk1) (by decide) rfl (Nat.le_of_ble_eq_true rfl) d_Split_splitPoles_103 rfl (fun S7 r h7 => ?_)
                obtain ⟨rfl, rfl⟩ := h7
                refine r_iload X d_Split_splitPoles_106 (by rfl) ?_
                refine r_iload_n X d_Split_splitPoles_108 (by rfl) ?_
                first | refine r_imulN X d_Split_splitPoles_109 ?_ | refine r_imul X d_Split_splitPoles_109 ?_
                refine r_sipush X (x := (nI 10007)) d_Split_splitPoles_110 (by decide) ?_
                refine r_iremN X d_Split_splitPoles_113 (by decide) (by decide) (by omega) ?_
                refine r_iast X d_Split_splitPoles_114 (by assumption) (by omega) (by omega) ?_
                refine r_goto X d_Split_splitPoles_115 (tgt := 132) (by decide) ?_
                refine r_iincN X 1 d_Split_splitPoles_132 (by rfl) (by decide) (by decide) ?_
                refine r_goto X d_Split_splitPoles_135 (tgt := 54) (by decide) ?_
                refine ihd (k + 1) _ _ (by omega) (by omega) ?_ ?_ ?_ ?_ ?_ ?_
                · rw [arS_1n (by omega)]; exact hser
                · intro b' k' h1 h2 h3
                  rw [arS_1]
                  unfold va_up
                  by_cases h : b = b' + 1 ∧ k' = k
                  · obtain ⟨rfl, rfl⟩ := h
                    rw [if_pos (by omega), if_pos (by omega), show 7 - b' = (7 - (b' + 1)) + 1 by omega]
                    show _ = (wgc e N (7 - (7 - (b' + 1))) k' + ptr (iv z) (wgc e N) (7 - (b' + 1)) k') % 10007 * iv z % 10007
                    rw [show 7 - (7 - (b' + 1)) = b' + 1 by omega]
                  · rw [if_neg (by omega), hpar4 b' k' h1 h2 h3]
                    by_cases h5 : b ≤ b' ∨ (b = b' + 1 ∧ k' < k)
                    · rw [if_pos h5, if_pos (by omega)]
                    · rw [if_neg h5, if_neg (by omega)]
                · rw [arS_1n (by omega), hrow4, if_neg (by omega), if_neg (by omega)]
                · rw [arS_1n (by omega)]; exact hexp4
                · rw [arS_2]; exact hz4
                · exact hx4.trans ((Out.ar (q := s + 2) (w := 1) (by omega) (by omega)).ex (fun a h1 h2 => by omega))
        refine r_iconst X (x := (nI 1)) d_Split_splitPoles_51 (by decide) ?_
        refine r_istore X d_Split_splitPoles_52 (by decide) ?_
        refine inner 3 1 _ S3 (by omega) (by omega) h3 ?_ ?_ ?_ ?_ ?_
        · intro b' k' h1 h2 h3
          rw [(hx3 (s + 2) (by omega)).1, hpar b' k' h1 h2 h3]
          by_cases h : b ≤ b'
          · rw [if_pos (by omega), if_pos (Or.inl h)]
          · rw [if_neg (by omega), if_neg (by omega)]
        · rw [(hx3 (t + 2) (by omega)).1, hrow]
          split
          · funext i
            unfold rmw
            split
            · rw [if_neg (by omega)]
            · rfl
          · rfl
        · rw [(hx3 (t + 3) (by omega)).1]; exact hexp
        · rw [(hx3 t (by omega)).2]; exact hz2
        · exact hx.trans (hx3.mono (fun a h => by omega))
  refine r_aload_n X d_Split_splitPoles_0 (by rfl) ?_
  refine r_get X lf_Split_49 d_Split_splitPoles_1 (by assumption) (by rfl) ?_
  rw [hu1.2.2]
  refine r_cSi X ls_Split_81 (c_invert hz) (by decide) rfl (Nat.le_of_ble_eq_true rfl) d_Split_splitPoles_4 rfl (fun S1 r h1 => ?_)
  obtain ⟨rfl, rfl⟩ := h1
  refine r_istore_n X d_Split_splitPoles_7 (by decide) ?_
  refine r_aload_n X d_Split_splitPoles_8 (by rfl) ?_
  refine r_cVv X lv_Split_84 (c_tclear ht0) (by assumption) (by decide) rfl (Nat.le_of_ble_eq_true rfl) d_Split_splitPoles_9 rfl (fun S2 h2 => ?_)
  obtain ⟨h2, ho2⟩ := h2
  have hu2 := hu1.out ho2 (by omega)
  refine r_aload_n X d_Split_splitPoles_12 (by rfl) ?_
  refine r_aload_n X d_Split_splitPoles_13 (by rfl) ?_
  refine r_get X lf_Split_49 d_Split_splitPoles_14 (by assumption) (by rfl) ?_
  rw [hu2.2.2]
  refine r_put X lp_Split_49 d_Split_splitPoles_17 (by assumption) (by rfl) (Nat.le_of_ble_eq_true rfl) ?_
  refine r_aload_n X d_Split_splitPoles_20 (by rfl) ?_
  refine r_get X lf_Split_70 d_Split_splitPoles_21 (by assumption) (by rfl) ?_
  refine r_iconst X (x := (nI 0)) d_Split_splitPoles_24 (by decide) ?_
  refine r_iconst X (x := (nI 3)) d_Split_splitPoles_25 (by decide) ?_
  refine r_iast X d_Split_splitPoles_26 (by assumption) (by omega) (by omega) ?_
  refine r_aload_n X d_Split_splitPoles_27 (by rfl) ?_
  refine r_get X lf_Split_15 d_Split_splitPoles_28 (by assumption) (by rfl) ?_
  refine r_iconst X (x := (nI 0)) d_Split_splitPoles_31 (by decide) ?_
  have ho3 : Out S2 (arS (fdS S2 t (nI z)) (t + 3) (va_up ((fdS S2 t (nI z)).1 (t + 3)) 0 3)) t 4 := (Out.fd (by omega) (by omega)).trans (Out.ar (by omega) (by omega))
  have e3 : (arS (fdS S2 t (nI z)) (t + 3) (va_up ((fdS S2 t (nI z)).1 (t + 3)) 0 3)).1 (t + 3) = e30 := by
    rw [arS_1, fdS_1, h2.2.1]
    rfl
  have e4 : (arS (fdS S2 t (nI z)) (t + 3) (va_up ((fdS S2 t (nI z)).1 (t + 3)) 0 3)).2 t = nI z := by rw [arS_2, fdS_2]
  have e5 : (arS (fdS S2 t (nI z)) (t + 3) (va_up ((fdS S2 t (nI z)).1 (t + 3)) 0 3)).1 (t + 2) = fun _ => 0 := by
    rw [arS_1n (by omega), fdS_1]
    exact h2.1.1
  revert ho3 e3 e4 e5
  generalize arS (fdS S2 t (nI z)) (t + 3) (va_up ((fdS S2 t (nI z)).1 (t + 3)) 0 3) = S3
  intro ho3 e3 e4 e5
  refine r_cSv X ls_Split_87 (c_fill (v := 0) ha2 (by omega)) (by decide) rfl (Nat.le_of_ble_eq_true rfl) d_Split_splitPoles_32 rfl (fun S4 h4 => ?_)
  have ho4 : Out S3 S4 (s + 2) 1 := by rw [h4]; exact Out.ar (by omega) (by omega)
  refine r_bipush X (x := (tI 8)) d_Split_splitPoles_35 (by decide) ?_
  refine r_istore X d_Split_splitPoles_37 (by decide) ?_
  refine main 8 _ _ S4 (by omega) ?_ ?_ ?_ ?_ ?_
  · intro b k h1 h2 h3
    rw [h4, arS_1]
    by_cases h : 8 ≤ b + 1
    · rw [if_pos h, show 7 - b = 0 by omega]
      split <;> rfl
    · rw [if_neg h]
      split <;> rfl
  · rw [if_neg (by omega), ho4.a1 (by omega)]
    exact e5
  · rw [ho4.a1 (by omega)]; exact e3
  · rw [ho4.a2 (by omega)]; exact e4
  · exact ((ho2.ex (fun a h1 h2 => by omega)).trans (ho3.ex (fun a h1 h2 => by omega))).trans (ho4.ex (fun a h1 h2 => by omega))
def gEx (P : Nat → Nat) (b : Nat) : Nat → Nat
  | 0 => 0
  | k + 1 => if P (b * 3 + (k + 1) - 1) ≠ 0 then k + 1 else gEx P b k
theorem gEx_le (P : Nat → Nat) (b k : Nat) : gEx P b k ≤ k := by
  induction k with
  | zero => exact Nat.le_refl _
  | succ k ih =>
    unfold gEx
    split <;> omega
def gE (P : Nat → Nat) : Nat → Nat := fun b => if b < 8 then gEx P b 3 else 0
theorem gE_ok (P : Nat → Nat) : okE (gE P) := by
  refine ⟨fun i => ?_, fun i hi => ?_⟩
  · unfold gE
    split
    · have := gEx_le P i 3; omega
    · decide
  · unfold gE
    rw [if_neg (by omega)]
theorem gE_3 (P : Nat → Nat) (i : Nat) : gE P i ≤ 3 := by
  unfold gE
  split
  · exact gEx_le P i 3
  · decide
def gk (P e : Nat → Nat) (b : Nat) : Nat → (Nat → Nat) → Nat → Nat
  | 0, R => R
  | k + 1, R => ads 64 1 (gk P e b k R) (wd 64 (va_up e b (e b - (k + 1))) 8 (lin 0 (P (b * 3 + (k + 1) - 1))))
def gb (P e : Nat → Nat) : Nat → (Nat → Nat) → Nat → Nat
  | 0, R => R
  | b + 1, R => gk P e b (e b) (gb P e b R)
theorem gk_ok {P e : Nat → Nat} {b : Nat} {R : Nat → Nat} (h : okP 64 R) : ∀ k, okP 64 (gk P e b k R)
  | 0 => h
  | k + 1 => ads_ok 64 1 _ _
theorem gb_ok {P e : Nat → Nat} {R : Nat → Nat} (h : okP 64 R) : ∀ b, okP 64 (gb P e b R)
  | 0 => h
  | b + 1 => gk_ok (gb_ok h b) _
def gth (P Xw : Nat → Nat) : Nat → Nat := gb P (gE P) 8 (wd 64 (gE P) 8 Xw)
set_option maxHeartbeats 8000000 in
set_option maxRecDepth 100000 in
theorem c_gather {s t z : Nat} {P Xw : Nat → Nat} (hs : isS G s) (ht : isT G t 64) (hP : okP 24 P) (hX : okP 64 Xw) (hz : z < 10007) (hp1 : S.1 (s + 2) = P) (hw1 : S.1 (s + 8) = Xw) : CT (mkE l D cI cT) G y_Split_gather b_Split_gather 5 none 4 [.ref s, .int (nI z), .ref t] S (Pv (fun S' => tIs S' t 64 (nrN 64 (gth P Xw) (gE P)) (nrE 64 (gth P Xw) (gE P)) (nrZ 64 (gth P Xw) z) ∧ Ex (fun a => (s + 5 ≤ a ∧ a < s + 7) ∨ (t ≤ a ∧ a < t + 4)) S S')) := by
  have hs0 := hs
  have ht0 := ht
  have hst := ht.sepS hs
  obtain ⟨hS, ha1, ha2, hpr, hps, hpw⟩ := hs
  have hps0 := hps
  have hpw0 := hpw
  obtain ⟨hqs, has, -, -⟩ := hps
  obtain ⟨hqw, haw, -, -⟩ := hpw
  obtain ⟨hT, hpt, hte⟩ := ht
  have hpt0 := hpt
  obtain ⟨hqt, hat, -, -⟩ := hpt
  refine mk_v (by decide) (eok l D cI cT) (by simp [Value.category]) (Nat.le_of_ble_eq_true rfl) (fun J X hR => ?_)
  show J S 0 [some (.ref s), some (.int (nI z)), some (.ref t), none, none] []
  have hcut : cut 64 Xw = Xw := cut_id hX.2
  have hgok := gE_ok P
  have hg3 := gE_3 P
  have third : ∀ j b v S2 R, b + j = 8 → R = gb P (gE P) b (wd 64 (gE P) 8 Xw) → tIs S2 t 64 R (gE P) z → S2.1 (s + 2) = P → Ex (fun a => (s + 5 ≤ a ∧ a < s + 7) ∨ (t ≤ a ∧ a < t + 4)) S S2 → J S2 86 [some (.ref s), some (.int (nI z)), some (.ref t), some (.int (nI b)), v] [] := by
    intro j
    induction j with
    | zero =>
      intro b v S2 R hb hRe ht2 hp2 hx
      have hb8 : b = 8 := by omega
      subst hb8
      have hRok : okP 64 R := by rw [hRe]; exact gb_ok (wd_ok hX 8) 8
      refine r_iload_n X d_Split_gather_86 (by rfl) ?_
      refine r_bipush X (x := (nI 8)) d_Split_gather_87 (by decide) ?_
      refine r_icmp_geN X d_Split_gather_89 (tgt := 163) (by decide) (by omega) (by omega) (fun hc => ?_) (fun hc => ?_)
      · refine r_aload_n X d_Split_gather_163 (by rfl) ?_
        refine r_cVv X lv_Split_103 (c_normalise ht0 hRok hgok ht2) (by assumption) (by decide) rfl (Nat.le_of_ble_eq_true rfl) d_Split_gather_164 rfl (fun S3 h3 => ?_)
        obtain ⟨h3, ho3⟩ := h3
        refine hR _ _ _ d_Split_gather_167 ⟨rfl, ?_, hx.trans (ho3.ex (fun a h1 h2 => by omega))⟩
        rw [hRe] at h3
        exact h3
      · omega
    | succ j ih =>
      intro b v S2 R hb hRe ht2 hp2 hx
      have hgb := hg3 b
      have inner : ∀ d k S3, k + d = gE P b → tIs S3 t 64 (gk P (gE P) b k R) (gE P) z → S3.1 (s + 2) = P → Ex (fun a => (s + 5 ≤ a ∧ a < s + 7) ∨ (t ≤ a ∧ a < t + 4)) S S3 → J S3 95 [some (.ref s), some (.int (nI z)), some (.ref t), some (.int (nI b)), some (.int (nI (k + 1)))] [] := by
        have hRok : okP 64 R := by rw [hRe]; exact gb_ok (wd_ok hX 8) b
        intro d
        induction d with
        | zero =>
          intro k S3 hk ht3 hp3 hx3
          refine r_iload X d_Split_gather_95 (by rfl) ?_
          refine r_aload_n X d_Split_gather_97 (by rfl) ?_
          refine r_get X lf_Split_70 d_Split_gather_98 (by assumption) (by rfl) ?_
          refine r_iload_n X d_Split_gather_101 (by rfl) ?_
          refine r_iald X d_Split_gather_102 (by assumption) (by omega) (by omega) ?_
          rw [ht3.2.1]
          refine r_icmp_gtN X d_Split_gather_103 (tgt := 157) (by decide) (by omega) (by omega) (fun hc => ?_) (fun hc => ?_)
          · refine r_iincN X 1 d_Split_gather_157 (by rfl) (by decide) (by decide) ?_
            refine r_goto X d_Split_gather_160 (tgt := 86) (by decide) ?_
            refine ih (b + 1) _ S3 _ (by omega) ?_ ht3 hp3 hx3
            rw [show k = gE P b by omega, hRe]
            rfl
          · omega
        | succ d ihd =>
          intro k S3 hk ht3 hp3 hx3
          have bP := hP.1 (b * 3 + (k + 1) - 1)
          refine r_iload X d_Split_gather_95 (by rfl) ?_
          refine r_aload_n X d_Split_gather_97 (by rfl) ?_
          refine r_get X lf_Split_70 d_Split_gather_98 (by assumption) (by rfl) ?_
          refine r_iload_n X d_Split_gather_101 (by rfl) ?_
          refine r_iald X d_Split_gather_102 (by assumption) (by omega) (by omega) ?_
          rw [ht3.2.1]
          refine r_icmp_gtN X d_Split_gather_103 (tgt := 157) (by decide) (by omega) (by omega) (fun hc => ?_) (fun hc => ?_)
          · omega
          · refine r_aload_n X d_Split_gather_106 (by rfl) ?_
            refine r_get X lf_Split_27 d_Split_gather_107 (by assumption) (by rfl) ?_
            refine r_iconst X (x := (nI 0)) d_Split_gather_110 (by decide) ?_
            refine r_aload_n X d_Split_gather_111 (by rfl) ?_
            refine r_get X lf_Split_15 d_Split_gather_112 (by assumption) (by rfl) ?_
            refine r_iload_n X d_Split_gather_115 (by rfl) ?_
            refine r_iload X d_Split_gather_116 (by rfl) ?_
            refine r_cSi X ls_Split_93 (c_partIndex (b := b) (k := k + 1) (by omega)) (by decide) rfl (Nat.le_of_ble_eq_true rfl) d_Split_gather_118 rfl (fun S4 r h4 => ?_)
            obtain ⟨rfl, rfl⟩ := h4
            refine r_iald X d_Split_gather_121 (by assumption) (by omega) (by omega) ?_
            rw [hp3]
            refine r_cVv X lv_Split_118 (c_setLinear (a := 0) hps0 (by decide) bP) (by assumption) (by decide) rfl (Nat.le_of_ble_eq_true rfl) d_Split_gather_122 rfl (fun S5 h5 => ?_)
            obtain ⟨h5, ho5⟩ := h5
            have ht5 := ht3.out ho5 (by omega)
            refine r_aload_n X d_Split_gather_125 (by rfl) ?_
            refine r_get X lf_Split_27 d_Split_gather_126 (by assumption) (by rfl) ?_
            refine r_aload_n X d_Split_gather_129 (by rfl) ?_
            refine r_get X lf_Split_70 d_Split_gather_130 (by assumption) (by rfl) ?_
            refine r_iload_n X d_Split_gather_133 (by rfl) ?_
            refine r_iload X d_Split_gather_134 (by rfl) ?_
            have hlin := lin_ok (n := 64) (a := 0) (by decide) bP (by decide)
            refine r_cSv X ls_Split_124 (c_mulPoles (o := b) (k := k + 1) hps0 hte (by omega) hlin hgok h5 ht5.2.1 (by omega) (by omega)) (by decide) rfl (Nat.le_of_ble_eq_true rfl) d_Split_gather_136 rfl (fun S6 h6 => ?_)
            obtain ⟨h6, ho6⟩ := h6
            have ht6 := ht5.out ho6 (by omega)
            refine r_aload_n X d_Split_gather_139 (by rfl) ?_
            refine r_get X lf_Split_59 d_Split_gather_140 (by assumption) (by rfl) ?_
            refine r_aload_n X d_Split_gather_143 (by rfl) ?_
            refine r_get X lf_Split_27 d_Split_gather_144 (by assumption) (by rfl) ?_
            refine r_iconst X (x := (nI 1)) d_Split_gather_147 (by decide) ?_
            refine r_cVv X lv_Split_114 (c_addScaled (c := 1) hpt0 hps0 (by omega) (gk_ok hRok k) (wd_ok hlin 8) ht6.1.1 h6.1 (by decide)) (by assumption) (by decide) rfl (Nat.le_of_ble_eq_true rfl) d_Split_gather_148 rfl (fun S7 h7 => ?_)
            obtain ⟨h7, ho7⟩ := h7
            refine r_iincN X 1 d_Split_gather_151 (by rfl) (by decide) (by decide) ?_
            refine r_goto X d_Split_gather_154 (tgt := 95) (by decide) ?_
            refine ihd (k + 1) S7 (by omega) ⟨h7, ?_, ?_⟩ ?_ ?_
            · rw [ho7.a1 (by omega)]; exact ht6.2.1
            · rw [ho7.a2 (by omega)]; exact ht6.2.2
            · rw [ho7.a1 (by omega), ho6.a1 (by omega), ho5.a1 (by omega)]; exact hp3
            · exact ((hx3.trans (ho5.ex (fun a h1 h2 => by omega))).trans (ho6.ex (fun a h1 h2 => by omega))).trans (ho7.ex (fun a h1 h2 => by omega))
      refine r_iload_n X d_Split_gather_86 (by rfl) ?_
      refine r_bipush X (x := (nI 8)) d_Split_gather_87 (by decide) ?_
      refine r_icmp_geN X d_Split_gather_89 (tgt := 163) (by decide) (by omega) (by omega) (fun hc => ?_) (fun hc => ?_)
      · omega
      · refine r_iconst X (x := (nI 1)) d_Split_gather_92 (by decide) ?_
        refine r_istore X d_Split_gather_93 (by decide) ?_
        exact inner (gE P b) 0 S2 (by omega) ht2 hp2 hx
  have second : ∀ S2, tIs S2 t 64 (fun _ => 0) (gE P) z → S2.1 (s + 2) = P → S2.1 (s + 8) = Xw → Ex (fun a => (s + 5 ≤ a ∧ a < s + 7) ∨ (t ≤ a ∧ a < t + 4)) S S2 → J S2 60 [some (.ref s), some (.int (nI z)), some (.ref t), none, none] [] := by
    intro S2 ht2 hp2 hw2 hx
    refine r_aload_n X d_Split_gather_60 (by rfl) ?_
    refine r_get X lf_Split_59 d_Split_gather_61 (by assumption) (by rfl) ?_
    refine r_aload_n X d_Split_gather_64 (by rfl) ?_
    refine r_get X lf_Split_30 d_Split_gather_65 (by assumption) (by rfl) ?_
    refine r_cVv X lv_Split_62 (c_copyFrom hpt0 hpw0 (by omega) hX hw2) (by assumption) (by decide) rfl (Nat.le_of_ble_eq_true rfl) d_Split_gather_68 rfl (fun S3 h3 => ?_)
    obtain ⟨h3, ho3⟩ := h3
    rw [hcut] at h3
    have e3 : S3.1 (t + 3) = gE P := by rw [ho3.a1 (by omega)]; exact ht2.2.1
    refine r_aload_n X d_Split_gather_71 (by rfl) ?_
    refine r_get X lf_Split_59 d_Split_gather_72 (by assumption) (by rfl) ?_
    refine r_aload_n X d_Split_gather_75 (by rfl) ?_
    refine r_get X lf_Split_70 d_Split_gather_76 (by assumption) (by rfl) ?_
    refine r_iconst X (x := (nI 0)) d_Split_gather_79 (by decide) ?_
    refine r_iconst X (x := (nI 0)) d_Split_gather_80 (by decide) ?_
    refine r_cSv X ls_Split_124 (c_mulPoles (o := 0) (k := 0) hpt0 hte (by omega) hX hgok h3 e3 (by omega) (by omega)) (by decide) rfl (Nat.le_of_ble_eq_true rfl) d_Split_gather_81 rfl (fun S4 h4 => ?_)
    obtain ⟨h4, ho4⟩ := h4
    rw [Nat.sub_zero, va_up_id] at h4
    refine r_iconst X (x := (nI 0)) d_Split_gather_84 (by decide) ?_
    refine r_istore_n X d_Split_gather_85 (by decide) ?_
    refine third 8 0 _ S4 _ (by omega) rfl ⟨h4, ?_, ?_⟩ ?_ ?_
    · rw [ho4.a1 (by omega)]; exact e3
    · rw [ho4.a2 (by omega), ho3.a2 (by omega)]; exact ht2.2.2
    · rw [ho4.a1 (by omega), ho3.a1 (by omega)]; exact hp2
    · exact (hx.trans (ho3.ex (fun a h1 h2 => by omega))).trans (ho4.ex (fun a h1 h2 => by omega))
  have first : ∀ j b v S2, b + j = 8 → tIs S2 t 64 (fun _ => 0) (fun i => if i < b then gE P i else 0) z → S2.1 (s + 2) = P → S2.1 (s + 8) = Xw → Ex (fun a => (s + 5 ≤ a ∧ a < s + 7) ∨ (t ≤ a ∧ a < t + 4)) S S2 → J S2 11 [some (.ref s), some (.int (nI z)), some (.ref t), some (.int (nI b)), v] [] := by
    intro j
    induction j with
    | zero =>
      intro b v S2 hb ht2 hp2 hw2 hx
      refine r_iload_n X d_Split_gather_11 (by rfl) ?_
      refine r_bipush X (x := (nI 8)) d_Split_gather_12 (by decide) ?_
      refine r_icmp_geN X d_Split_gather_14 (tgt := 60) (by decide) (by omega) (by omega) (fun hc => ?_) (fun hc => ?_)
      · refine r_forget X (L' := [some (.ref s), some (.int (nI z)), some (.ref t), none, none]) ?_ (second S2 ?_ hp2 hw2 hx)
        · intro i w hi
          match i with
          | 0 => exact hi
          | 1 => exact hi
          | 2 => exact hi
          | 3 => cases hi
          | 4 => cases hi
          | n + 5 => cases hi
        · rw [show (fun i => if i < b then gE P i else 0) = gE P by
            funext i
            split
            · rfl
            · unfold gE
              rw [if_neg (by omega)]] at ht2
          exact ht2
      · omega
    | succ j ih =>
      intro b v S2 hb ht2 hp2 hw2 hx
      have inner : ∀ d k S3, k + d = 3 → tIs S3 t 64 (fun _ => 0) (va_up (fun i => if i < b then gE P i else 0) b (gEx P b k)) z → S3.1 (s + 2) = P → S3.1 (s + 8) = Xw → Ex (fun a => (s + 5 ≤ a ∧ a < s + 7) ∨ (t ≤ a ∧ a < t + 4)) S S3 → J S3 20 [some (.ref s), some (.int (nI z)), some (.ref t), some (.int (nI b)), some (.int (nI (k + 1)))] [] := by
        intro d
        induction d with
        | zero =>
          intro k S3 hk ht3 hp3 hw3 hx3
          have hk3 : k = 3 := by omega
          subst hk3
          refine r_iload X d_Split_gather_20 (by rfl) ?_
          refine r_iconst X (x := (nI 3)) d_Split_gather_22 (by decide) ?_
          refine r_icmp_gtN X d_Split_gather_23 (tgt := 54) (by decide) (by omega) (by omega) (fun hc => ?_) (fun hc => ?_)
          · refine r_iincN X 1 d_Split_gather_54 (by rfl) (by decide) (by decide) ?_
            refine r_goto X d_Split_gather_57 (tgt := 11) (by decide) ?_
            refine ih (b + 1) _ S3 (by omega) ?_ hp3 hw3 hx3
            have e9 : gEx P b 3 = gE P b := by unfold gE; rw [if_pos (by omega)]
            rw [e9, up_lt (gE P) (fun _ => 0) b] at ht3
            exact ht3
          · omega
        | succ d ihd =>
          intro k S3 hk ht3 hp3 hw3 hx3
          have bP := hP.1 (b * 3 + (k + 1) - 1)
          refine r_iload X d_Split_gather_20 (by rfl) ?_
          refine r_iconst X (x := (nI 3)) d_Split_gather_22 (by decide) ?_
          refine r_icmp_gtN X d_Split_gather_23 (tgt := 54) (by decide) (by omega) (by omega) (fun hc => ?_) (fun hc => ?_)
          · omega
          · refine r_aload_n X d_Split_gather_26 (by rfl) ?_
            refine r_get X lf_Split_15 d_Split_gather_27 (by assumption) (by rfl) ?_
            refine r_iload_n X d_Split_gather_30 (by rfl) ?_
            refine r_iload X d_Split_gather_31 (by rfl) ?_
            refine r_cSi X ls_Split_93 (c_partIndex (b := b) (k := k + 1) (by omega)) (by decide) rfl (Nat.le_of_ble_eq_true rfl) d_Split_gather_33 rfl (fun S4 r h4 => ?_)
            obtain ⟨rfl, rfl⟩ := h4
            refine r_iald X d_Split_gather_36 (by assumption) (by omega) (by omega) ?_
            rw [hp3]
            refine r_if_eqN X d_Split_gather_37 (tgt := 48) (by decide) (by omega) (fun hc => ?_) (fun hc => ?_)
            · refine r_iincN X 1 d_Split_gather_48 (by rfl) (by decide) (by decide) ?_
              refine r_goto X d_Split_gather_51 (tgt := 20) (by decide) ?_
              refine ihd (k + 1) S4 (by omega) ?_ hp3 hw3 hx3
              show tIs S4 t 64 (fun _ => 0) (va_up _ b (if P (b * 3 + (k + 1) - 1) ≠ 0 then k + 1 else gEx P b k)) z
              rw [if_neg (by omega)]
              exact ht3
            · refine r_aload_n X d_Split_gather_40 (by rfl) ?_
              refine r_get X lf_Split_70 d_Split_gather_41 (by assumption) (by rfl) ?_
              refine r_iload_n X d_Split_gather_44 (by rfl) ?_
              refine r_iload X d_Split_gather_45 (by rfl) ?_
              refine r_iast X d_Split_gather_47 (by assumption) (by omega) (by omega) ?_
              refine r_iincN X 1 d_Split_gather_48 (by rfl) (by decide) (by decide) ?_
              refine r_goto X d_Split_gather_51 (tgt := 20) (by decide) ?_
              have ho5 : Out S4 (arS S4 (t + 3) (va_up (S4.1 (t + 3)) b (k + 1))) (t + 3) 1 := Out.ar (by omega) (by omega)
              refine ihd (k + 1) _ (by omega) ⟨ht3.1.out ho5 (by omega), ?_, ?_⟩ ?_ ?_ ?_
              · show _ = va_up _ b (if P (b * 3 + (k + 1) - 1) ≠ 0 then k + 1 else gEx P b k)
                rw [if_pos hc, arS_1, ht3.2.1, va_up_up]
              · rw [arS_2]; exact ht3.2.2
              · rw [arS_1n (by omega)]; exact hp3
              · rw [arS_1n (by omega)]; exact hw3
              · exact hx3.trans (ho5.ex (fun a h1 h2 => by omega))
      refine r_iload_n X d_Split_gather_11 (by rfl) ?_
      refine r_bipush X (x := (nI 8)) d_Split_gather_12 (by decide) ?_
      refine r_icmp_geN X d_Split_gather_14 (tgt := 60) (by decide) (by omega) (by omega) (fun hc => ?_) (fun hc => ?_)
      · omega
      · refine r_iconst X (x := (nI 1)) d_Split_gather_17 (by decide) ?_
        refine r_istore X d_Split_gather_18 (by decide) ?_
        refine inner 3 0 S2 (by omega) ?_ hp2 hw2 hx
        show tIs S2 t 64 (fun _ => 0) (va_up _ b 0) z
        rw [show va_up (fun i => if i < b then gE P i else 0) b 0 = (fun i => if i < b then gE P i else 0) by
          funext i
          unfold va_up
          split
          · next h => rw [if_neg (by omega)]
          · rfl]
        exact ht2
  refine r_aload_n X d_Split_gather_0 (by rfl) ?_
  refine r_cVv X lv_Split_84 (c_tclear ht0) (by assumption) (by decide) rfl (Nat.le_of_ble_eq_true rfl) d_Split_gather_1 rfl (fun S1 h1 => ?_)
  obtain ⟨h1, ho1⟩ := h1
  refine r_aload_n X d_Split_gather_4 (by rfl) ?_
  refine r_iload_n X d_Split_gather_5 (by rfl) ?_
  refine r_put X lp_Split_49 d_Split_gather_6 (by assumption) (by rfl) (Nat.le_of_ble_eq_true rfl) ?_
  refine r_iconst X (x := (nI 0)) d_Split_gather_9 (by decide) ?_
  refine r_istore_n X d_Split_gather_10 (by decide) ?_
  have ho2 : Out S1 (fdS S1 t (nI z)) t 1 := Out.fd (by omega) (by omega)
  refine first 8 0 _ _ (by omega) ⟨h1.1.out ho2 (by omega), ?_, fdS_2 _ _ _⟩ ?_ ?_ ?_
  · rw [fdS_1, h1.2.1]
    funext i
    rw [if_neg (by omega)]
  · rw [fdS_1, ho1.a1 (by omega)]; exact hp1
  · rw [fdS_1, ho1.a1 (by omega)]; exact hw1
  · exact (ho1.ex (fun a h1 h2 => by omega)).trans (ho2.ex (fun a h1 h2 => by omega))
def whl (z : Nat) (e N : Nat → Nat) : Nat → Nat := swh z (tp (qdv e 8 N) 64) (qdv e 8 N) (fun _ => 0)
def spP (z : Nat) (e N : Nat → Nat) : Nat → Nat := pfn (iv z) (wgc e N)
def spN (z : Nat) (e N : Nat → Nat) : Nat → Nat := gth (spP z e N) (whl z e N)
def spR (z : Nat) (e N : Nat → Nat) : Nat → Nat := rmw (iv z) (wgc e N)
set_option maxHeartbeats 4000000 in
set_option maxRecDepth 100000 in
theorem c_split {s u m t r z : Nat} {N e : Nat → Nat} (hs : isS G s) (hu : isT G u m) (ht : isT G t 64) (hr : isT G r 64) (htu : t ≠ u) (hru : r ≠ u) (htr : t ≠ r) (hN : okP 32 N) (hm : 32 ≤ m) (hE : okE e) (hz0 : 0 < z) (hz : z < 10007) (hu1 : tIs S u m N e z) : CT (mkE l D cI cT) G y_Split_split b_Split_split 4 none 5 [.ref s, .ref u, .ref t, .ref r] S (Pv (fun S' => tIs S' t 64 (nrN 64 (spN z e N) (gE (spP z e N))) (nrE 64 (spN z e N) (gE (spP z e N))) (nrZ 64 (spN z e N) z) ∧ tIs S' r 64 (nrN 64 (spR z e N) e30) (nrE 64 (spR z e N) e30) (nrZ 64 (spR z e N) z) ∧ Ex (fun a => (s + 1 ≤ a ∧ a < s + 9) ∨ (t ≤ a ∧ a < t + 4) ∨ (r ≤ a ∧ a < r + 4)) S S')) := by
  have hs0 := hs
  have hsu := hu.sepS hs
  have hst := ht.sepS hs
  have hsr := hr.sepS hs
  have htu' := ht.sep hu htu
  have hru' := hr.sep hu hru
  have htr' := ht.sep hr htr
  obtain ⟨hS, -⟩ := hs
  have hU := hu.1
  refine mk_v (by decide) (eok l D cI cT) (by simp [Value.category]) (Nat.le_of_ble_eq_true rfl) (fun J X hR => ?_)
  show J S 0 [some (.ref s), some (.ref u), some (.ref t), some (.ref r)] []
  refine r_aload_n X d_Split_split_0 (by rfl) ?_
  refine r_aload_n X d_Split_split_1 (by rfl) ?_
  refine r_aload_n X d_Split_split_2 (by rfl) ?_
  refine r_cVv X lv_Split_41 (c_splitPoles (y := 0) hs0 hu hr hru (hN.mono hm) hE hz hu1) (by assumption) (by decide) rfl (Nat.le_of_ble_eq_true rfl) d_Split_split_3 rfl (fun S1 h1 => ?_)
  obtain ⟨h1, hp1, hx1⟩ := h1
  have hu2 := hu1.ex hx1 (fun a h1 h2 => by omega)
  refine r_aload_n X d_Split_split_6 (by rfl) ?_
  refine r_aload_n X d_Split_split_7 (by rfl) ?_
  refine r_cVv X lv_Split_45 (c_splitWhole hs0 hu hN hm hE hz0 hz hu2) (by assumption) (by decide) rfl (Nat.le_of_ble_eq_true rfl) d_Split_split_8 rfl (fun S2 h2 => ?_)
  obtain ⟨h2, hok2, hx2⟩ := h2
  have hu3 := hu2.ex hx2 (fun a h1 h2 => by omega)
  have h1r := h1.ex hx2 (fun a h1 h2 => by omega)
  refine r_aload_n X d_Split_split_11 (by rfl) ?_
  refine r_aload_n X d_Split_split_12 (by rfl) ?_
  refine r_get X lf_Split_49 d_Split_split_13 (by assumption) (by rfl) ?_
  rw [hu3.2.2]
  refine r_aload_n X d_Split_split_16 (by rfl) ?_
  refine r_cVv X lv_Split_55 (c_gather hs0 ht (pfn_ok (iv z) (wgc e N)) hok2 hz (by rw [(hx2 (s + 2) (by omega)).1]; exact hp1) h2.1) (by assumption) (by decide) rfl (Nat.le_of_ble_eq_true rfl) d_Split_split_17 rfl (fun S3 h3 => ?_)
  obtain ⟨h3, hx3⟩ := h3
  refine hR _ _ _ d_Split_split_20 ⟨rfl, h3, h1r.ex hx3 (fun a h1 h2 => by omega), ?_⟩
  exact ((hx1.mono (fun a h => by omega)).trans (hx2.mono (fun a h => by omega))).trans (hx3.mono (fun a h => by omega))
end S3
end
section
theorem d_Desk_init_0 : decode b_Desk_init 0 = .ok (.aload_n 0, 1) := by decide +kernel
theorem d_Desk_init_1 : decode b_Desk_init 1 = .ok (.invokespecial 3, 3) := by decide +kernel
theorem d_Desk_init_4 : decode b_Desk_init 4 = .ok (.aload_n 0, 1) := by decide +kernel
theorem d_Desk_init_5 : decode b_Desk_init 5 = .ok (.bipush 8, 2) := by decide +kernel
theorem d_Desk_init_7 : decode b_Desk_init 7 = .ok (.anewarray 9, 3) := by decide +kernel
theorem d_Desk_init_10 : decode b_Desk_init 10 = .ok (.putfield 11, 3) := by decide +kernel
theorem d_Desk_init_13 : decode b_Desk_init 13 = .ok (.iconst 0, 1) := by decide +kernel
theorem d_Desk_init_14 : decode b_Desk_init 14 = .ok (.istore_n 1, 1) := by decide +kernel
theorem d_Desk_init_15 : decode b_Desk_init 15 = .ok (.iload_n 1, 1) := by decide +kernel
theorem d_Desk_init_16 : decode b_Desk_init 16 = .ok (.bipush 8, 2) := by decide +kernel
theorem d_Desk_init_18 : decode b_Desk_init 18 = .ok (.if_icmp .ge 24, 3) := by decide +kernel
theorem d_Desk_init_21 : decode b_Desk_init 21 = .ok (.aload_n 0, 1) := by decide +kernel
theorem d_Desk_init_22 : decode b_Desk_init 22 = .ok (.getfield 11, 3) := by decide +kernel
theorem d_Desk_init_25 : decode b_Desk_init 25 = .ok (.iload_n 1, 1) := by decide +kernel
theorem d_Desk_init_26 : decode b_Desk_init 26 = .ok (.new 9, 3) := by decide +kernel
theorem d_Desk_init_29 : decode b_Desk_init 29 = .ok (.dup, 1) := by decide +kernel
theorem d_Desk_init_30 : decode b_Desk_init 30 = .ok (.bipush 32, 2) := by decide +kernel
theorem d_Desk_init_32 : decode b_Desk_init 32 = .ok (.invokespecial 15, 3) := by decide +kernel
theorem d_Desk_init_35 : decode b_Desk_init 35 = .ok (.aastore, 1) := by decide +kernel
theorem d_Desk_init_36 : decode b_Desk_init 36 = .ok (.iinc 1 1, 3) := by decide +kernel
theorem d_Desk_init_39 : decode b_Desk_init 39 = .ok (.goto (-24), 3) := by decide +kernel
theorem d_Desk_init_42 : decode b_Desk_init 42 = .ok (.aload_n 0, 1) := by decide +kernel
theorem d_Desk_init_43 : decode b_Desk_init 43 = .ok (.new 9, 3) := by decide +kernel
theorem d_Desk_init_46 : decode b_Desk_init 46 = .ok (.dup, 1) := by decide +kernel
theorem d_Desk_init_47 : decode b_Desk_init 47 = .ok (.bipush 64, 2) := by decide +kernel
theorem d_Desk_init_49 : decode b_Desk_init 49 = .ok (.invokespecial 15, 3) := by decide +kernel
theorem d_Desk_init_52 : decode b_Desk_init 52 = .ok (.putfield 18, 3) := by decide +kernel
theorem d_Desk_init_55 : decode b_Desk_init 55 = .ok (.aload_n 0, 1) := by decide +kernel
theorem d_Desk_init_56 : decode b_Desk_init 56 = .ok (.new 9, 3) := by decide +kernel
theorem d_Desk_init_59 : decode b_Desk_init 59 = .ok (.dup, 1) := by decide +kernel
theorem d_Desk_init_60 : decode b_Desk_init 60 = .ok (.bipush 64, 2) := by decide +kernel
theorem d_Desk_init_62 : decode b_Desk_init 62 = .ok (.invokespecial 15, 3) := by decide +kernel
theorem d_Desk_init_65 : decode b_Desk_init 65 = .ok (.putfield 22, 3) := by decide +kernel
theorem d_Desk_init_68 : decode b_Desk_init 68 = .ok (.aload_n 0, 1) := by decide +kernel
theorem d_Desk_init_69 : decode b_Desk_init 69 = .ok (.new 25, 3) := by decide +kernel
theorem d_Desk_init_72 : decode b_Desk_init 72 = .ok (.dup, 1) := by decide +kernel
theorem d_Desk_init_73 : decode b_Desk_init 73 = .ok (.invokespecial 27, 3) := by decide +kernel
theorem d_Desk_init_76 : decode b_Desk_init 76 = .ok (.putfield 28, 3) := by decide +kernel
theorem d_Desk_init_79 : decode b_Desk_init 79 = .ok (.aload_n 0, 1) := by decide +kernel
theorem d_Desk_init_80 : decode b_Desk_init 80 = .ok (.new 32, 3) := by decide +kernel
theorem d_Desk_init_83 : decode b_Desk_init 83 = .ok (.dup, 1) := by decide +kernel
theorem d_Desk_init_84 : decode b_Desk_init 84 = .ok (.invokespecial 34, 3) := by decide +kernel
theorem d_Desk_init_87 : decode b_Desk_init 87 = .ok (.putfield 35, 3) := by decide +kernel
theorem d_Desk_init_90 : decode b_Desk_init 90 = .ok (.return_, 1) := by decide +kernel
theorem d_Desk_constant_0 : decode b_Desk_constant 0 = .ok (.iload_n 1, 1) := by decide +kernel
theorem d_Desk_constant_1 : decode b_Desk_constant 1 = .ok (.invokestatic 39, 3) := by decide +kernel
theorem d_Desk_constant_4 : decode b_Desk_constant 4 = .ok (.ifCond .eq 10, 3) := by decide +kernel
theorem d_Desk_constant_7 : decode b_Desk_constant 7 = .ok (.iload_n 2, 1) := by decide +kernel
theorem d_Desk_constant_8 : decode b_Desk_constant 8 = .ok (.invokestatic 43, 3) := by decide +kernel
theorem d_Desk_constant_11 : decode b_Desk_constant 11 = .ok (.ifCond .ne 6, 3) := by decide +kernel
theorem d_Desk_constant_14 : decode b_Desk_constant 14 = .ok (.bipush (-9), 2) := by decide +kernel
theorem d_Desk_constant_16 : decode b_Desk_constant 16 = .ok (.ireturn, 1) := by decide +kernel
theorem d_Desk_constant_17 : decode b_Desk_constant 17 = .ok (.aload_n 0, 1) := by decide +kernel
theorem d_Desk_constant_18 : decode b_Desk_constant 18 = .ok (.getfield 18, 3) := by decide +kernel
theorem d_Desk_constant_21 : decode b_Desk_constant 21 = .ok (.invokevirtual 46, 3) := by decide +kernel
theorem d_Desk_constant_24 : decode b_Desk_constant 24 = .ok (.aload_n 0, 1) := by decide +kernel
theorem d_Desk_constant_25 : decode b_Desk_constant 25 = .ok (.getfield 18, 3) := by decide +kernel
theorem d_Desk_constant_28 : decode b_Desk_constant 28 = .ok (.getfield 49, 3) := by decide +kernel
theorem d_Desk_constant_31 : decode b_Desk_constant 31 = .ok (.iconst 0, 1) := by decide +kernel
theorem d_Desk_constant_32 : decode b_Desk_constant 32 = .ok (.iload_n 2, 1) := by decide +kernel
theorem d_Desk_constant_33 : decode b_Desk_constant 33 = .ok (.invokevirtual 53, 3) := by decide +kernel
theorem d_Desk_constant_36 : decode b_Desk_constant 36 = .ok (.aload_n 0, 1) := by decide +kernel
theorem d_Desk_constant_37 : decode b_Desk_constant 37 = .ok (.iload_n 1, 1) := by decide +kernel
theorem d_Desk_constant_38 : decode b_Desk_constant 38 = .ok (.invokevirtual 59, 3) := by decide +kernel
theorem d_Desk_constant_41 : decode b_Desk_constant 41 = .ok (.ireturn, 1) := by decide +kernel
theorem d_Desk_isSlot_0 : decode b_Desk_isSlot 0 = .ok (.iload_n 0, 1) := by decide +kernel
theorem d_Desk_isSlot_1 : decode b_Desk_isSlot 1 = .ok (.ifCond .lt 13, 3) := by decide +kernel
theorem d_Desk_isSlot_4 : decode b_Desk_isSlot 4 = .ok (.iload_n 0, 1) := by decide +kernel
theorem d_Desk_isSlot_5 : decode b_Desk_isSlot 5 = .ok (.bipush 8, 2) := by decide +kernel
theorem d_Desk_isSlot_7 : decode b_Desk_isSlot 7 = .ok (.if_icmp .ge 7, 3) := by decide +kernel
theorem d_Desk_isSlot_10 : decode b_Desk_isSlot 10 = .ok (.iconst 1, 1) := by decide +kernel
theorem d_Desk_isSlot_11 : decode b_Desk_isSlot 11 = .ok (.goto 4, 3) := by decide +kernel
theorem d_Desk_isSlot_14 : decode b_Desk_isSlot 14 = .ok (.iconst 0, 1) := by decide +kernel
theorem d_Desk_isSlot_15 : decode b_Desk_isSlot 15 = .ok (.ireturn, 1) := by decide +kernel
theorem d_Desk_isResidue_0 : decode b_Desk_isResidue 0 = .ok (.iload_n 0, 1) := by decide +kernel
theorem d_Desk_isResidue_1 : decode b_Desk_isResidue 1 = .ok (.ifCond .lt 14, 3) := by decide +kernel
theorem d_Desk_isResidue_4 : decode b_Desk_isResidue 4 = .ok (.iload_n 0, 1) := by decide +kernel
theorem d_Desk_isResidue_5 : decode b_Desk_isResidue 5 = .ok (.sipush 10007, 3) := by decide +kernel
theorem d_Desk_isResidue_8 : decode b_Desk_isResidue 8 = .ok (.if_icmp .ge 7, 3) := by decide +kernel
theorem d_Desk_isResidue_11 : decode b_Desk_isResidue 11 = .ok (.iconst 1, 1) := by decide +kernel
theorem d_Desk_isResidue_12 : decode b_Desk_isResidue 12 = .ok (.goto 4, 3) := by decide +kernel
theorem d_Desk_isResidue_15 : decode b_Desk_isResidue 15 = .ok (.iconst 0, 1) := by decide +kernel
theorem d_Desk_isResidue_16 : decode b_Desk_isResidue 16 = .ok (.ireturn, 1) := by decide +kernel
theorem d_Desk_keepResult_0 : decode b_Desk_keepResult 0 = .ok (.aload_n 0, 1) := by decide +kernel
theorem d_Desk_keepResult_1 : decode b_Desk_keepResult 1 = .ok (.getfield 18, 3) := by decide +kernel
theorem d_Desk_keepResult_4 : decode b_Desk_keepResult 4 = .ok (.invokevirtual 100, 3) := by decide +kernel
theorem d_Desk_keepResult_7 : decode b_Desk_keepResult 7 = .ok (.ifCond .eq 6, 3) := by decide +kernel
theorem d_Desk_keepResult_10 : decode b_Desk_keepResult 10 = .ok (.bipush (-7), 2) := by decide +kernel
theorem d_Desk_keepResult_12 : decode b_Desk_keepResult 12 = .ok (.ireturn, 1) := by decide +kernel
theorem d_Desk_keepResult_13 : decode b_Desk_keepResult 13 = .ok (.aload_n 0, 1) := by decide +kernel
theorem d_Desk_keepResult_14 : decode b_Desk_keepResult 14 = .ok (.getfield 11, 3) := by decide +kernel
theorem d_Desk_keepResult_17 : decode b_Desk_keepResult 17 = .ok (.iload_n 1, 1) := by decide +kernel
theorem d_Desk_keepResult_18 : decode b_Desk_keepResult 18 = .ok (.aaload, 1) := by decide +kernel
theorem d_Desk_keepResult_19 : decode b_Desk_keepResult 19 = .ok (.aload_n 0, 1) := by decide +kernel
theorem d_Desk_keepResult_20 : decode b_Desk_keepResult 20 = .ok (.getfield 18, 3) := by decide +kernel
theorem d_Desk_keepResult_23 : decode b_Desk_keepResult 23 = .ok (.invokevirtual 103, 3) := by decide +kernel
theorem d_Desk_keepResult_26 : decode b_Desk_keepResult 26 = .ok (.iconst 0, 1) := by decide +kernel
theorem d_Desk_keepResult_27 : decode b_Desk_keepResult 27 = .ok (.ireturn, 1) := by decide +kernel
theorem d_Desk_linear_0 : decode b_Desk_linear 0 = .ok (.iload_n 1, 1) := by decide +kernel
theorem d_Desk_linear_1 : decode b_Desk_linear 1 = .ok (.invokestatic 39, 3) := by decide +kernel
theorem d_Desk_linear_4 : decode b_Desk_linear 4 = .ok (.ifCond .eq 17, 3) := by decide +kernel
theorem d_Desk_linear_7 : decode b_Desk_linear 7 = .ok (.iload_n 2, 1) := by decide +kernel
theorem d_Desk_linear_8 : decode b_Desk_linear 8 = .ok (.invokestatic 43, 3) := by decide +kernel
theorem d_Desk_linear_11 : decode b_Desk_linear 11 = .ok (.ifCond .eq 10, 3) := by decide +kernel
theorem d_Desk_linear_14 : decode b_Desk_linear 14 = .ok (.iload_n 3, 1) := by decide +kernel
theorem d_Desk_linear_15 : decode b_Desk_linear 15 = .ok (.invokestatic 43, 3) := by decide +kernel
theorem d_Desk_linear_18 : decode b_Desk_linear 18 = .ok (.ifCond .ne 6, 3) := by decide +kernel
theorem d_Desk_linear_21 : decode b_Desk_linear 21 = .ok (.bipush (-9), 2) := by decide +kernel
theorem d_Desk_linear_23 : decode b_Desk_linear 23 = .ok (.ireturn, 1) := by decide +kernel
theorem d_Desk_linear_24 : decode b_Desk_linear 24 = .ok (.aload_n 0, 1) := by decide +kernel
theorem d_Desk_linear_25 : decode b_Desk_linear 25 = .ok (.getfield 18, 3) := by decide +kernel
theorem d_Desk_linear_28 : decode b_Desk_linear 28 = .ok (.invokevirtual 46, 3) := by decide +kernel
theorem d_Desk_linear_31 : decode b_Desk_linear 31 = .ok (.aload_n 0, 1) := by decide +kernel
theorem d_Desk_linear_32 : decode b_Desk_linear 32 = .ok (.getfield 18, 3) := by decide +kernel
theorem d_Desk_linear_35 : decode b_Desk_linear 35 = .ok (.getfield 49, 3) := by decide +kernel
theorem d_Desk_linear_38 : decode b_Desk_linear 38 = .ok (.iload_n 2, 1) := by decide +kernel
theorem d_Desk_linear_39 : decode b_Desk_linear 39 = .ok (.iload_n 3, 1) := by decide +kernel
theorem d_Desk_linear_40 : decode b_Desk_linear 40 = .ok (.invokevirtual 53, 3) := by decide +kernel
theorem d_Desk_linear_43 : decode b_Desk_linear 43 = .ok (.aload_n 0, 1) := by decide +kernel
theorem d_Desk_linear_44 : decode b_Desk_linear 44 = .ok (.iload_n 1, 1) := by decide +kernel
theorem d_Desk_linear_45 : decode b_Desk_linear 45 = .ok (.invokevirtual 59, 3) := by decide +kernel
theorem d_Desk_linear_48 : decode b_Desk_linear 48 = .ok (.ireturn, 1) := by decide +kernel
theorem d_Desk_power_0 : decode b_Desk_power 0 = .ok (.iload_n 1, 1) := by decide +kernel
theorem d_Desk_power_1 : decode b_Desk_power 1 = .ok (.invokestatic 39, 3) := by decide +kernel
theorem d_Desk_power_4 : decode b_Desk_power 4 = .ok (.ifCond .eq 14, 3) := by decide +kernel
theorem d_Desk_power_7 : decode b_Desk_power 7 = .ok (.iload_n 2, 1) := by decide +kernel
theorem d_Desk_power_8 : decode b_Desk_power 8 = .ok (.invokestatic 43, 3) := by decide +kernel
theorem d_Desk_power_11 : decode b_Desk_power 11 = .ok (.ifCond .eq 7, 3) := by decide +kernel
theorem d_Desk_power_14 : decode b_Desk_power 14 = .ok (.iload_n 2, 1) := by decide +kernel
theorem d_Desk_power_15 : decode b_Desk_power 15 = .ok (.ifCond .ne 6, 3) := by decide +kernel
theorem d_Desk_power_18 : decode b_Desk_power 18 = .ok (.bipush (-9), 2) := by decide +kernel
theorem d_Desk_power_20 : decode b_Desk_power 20 = .ok (.ireturn, 1) := by decide +kernel
theorem d_Desk_power_21 : decode b_Desk_power 21 = .ok (.aload_n 0, 1) := by decide +kernel
theorem d_Desk_power_22 : decode b_Desk_power 22 = .ok (.getfield 18, 3) := by decide +kernel
theorem d_Desk_power_25 : decode b_Desk_power 25 = .ok (.invokevirtual 46, 3) := by decide +kernel
theorem d_Desk_power_28 : decode b_Desk_power 28 = .ok (.aload_n 0, 1) := by decide +kernel
theorem d_Desk_power_29 : decode b_Desk_power 29 = .ok (.getfield 18, 3) := by decide +kernel
theorem d_Desk_power_32 : decode b_Desk_power 32 = .ok (.iload_n 2, 1) := by decide +kernel
theorem d_Desk_power_33 : decode b_Desk_power 33 = .ok (.putfield 63, 3) := by decide +kernel
theorem d_Desk_power_36 : decode b_Desk_power 36 = .ok (.aload_n 0, 1) := by decide +kernel
theorem d_Desk_power_37 : decode b_Desk_power 37 = .ok (.getfield 18, 3) := by decide +kernel
theorem d_Desk_power_40 : decode b_Desk_power 40 = .ok (.getfield 49, 3) := by decide +kernel
theorem d_Desk_power_43 : decode b_Desk_power 43 = .ok (.iconst 0, 1) := by decide +kernel
theorem d_Desk_power_44 : decode b_Desk_power 44 = .ok (.iconst 1, 1) := by decide +kernel
theorem d_Desk_power_45 : decode b_Desk_power 45 = .ok (.invokevirtual 53, 3) := by decide +kernel
theorem d_Desk_power_48 : decode b_Desk_power 48 = .ok (.aload_n 0, 1) := by decide +kernel
theorem d_Desk_power_49 : decode b_Desk_power 49 = .ok (.iload_n 1, 1) := by decide +kernel
theorem d_Desk_power_50 : decode b_Desk_power 50 = .ok (.invokevirtual 59, 3) := by decide +kernel
theorem d_Desk_power_53 : decode b_Desk_power 53 = .ok (.ireturn, 1) := by decide +kernel
theorem d_Desk_pole_0 : decode b_Desk_pole 0 = .ok (.iload_n 1, 1) := by decide +kernel
theorem d_Desk_pole_1 : decode b_Desk_pole 1 = .ok (.invokestatic 39, 3) := by decide +kernel
theorem d_Desk_pole_4 : decode b_Desk_pole 4 = .ok (.ifCond .eq 17, 3) := by decide +kernel
theorem d_Desk_pole_7 : decode b_Desk_pole 7 = .ok (.iload_n 2, 1) := by decide +kernel
theorem d_Desk_pole_8 : decode b_Desk_pole 8 = .ok (.invokestatic 67, 3) := by decide +kernel
theorem d_Desk_pole_11 : decode b_Desk_pole 11 = .ok (.ifCond .eq 10, 3) := by decide +kernel
theorem d_Desk_pole_14 : decode b_Desk_pole 14 = .ok (.iload_n 3, 1) := by decide +kernel
theorem d_Desk_pole_15 : decode b_Desk_pole 15 = .ok (.invokestatic 70, 3) := by decide +kernel
theorem d_Desk_pole_18 : decode b_Desk_pole 18 = .ok (.ifCond .ne 6, 3) := by decide +kernel
theorem d_Desk_pole_21 : decode b_Desk_pole 21 = .ok (.bipush (-9), 2) := by decide +kernel
theorem d_Desk_pole_23 : decode b_Desk_pole 23 = .ok (.ireturn, 1) := by decide +kernel
theorem d_Desk_pole_24 : decode b_Desk_pole 24 = .ok (.aload_n 0, 1) := by decide +kernel
theorem d_Desk_pole_25 : decode b_Desk_pole 25 = .ok (.getfield 18, 3) := by decide +kernel
theorem d_Desk_pole_28 : decode b_Desk_pole 28 = .ok (.invokevirtual 46, 3) := by decide +kernel
theorem d_Desk_pole_31 : decode b_Desk_pole 31 = .ok (.aload_n 0, 1) := by decide +kernel
theorem d_Desk_pole_32 : decode b_Desk_pole 32 = .ok (.getfield 18, 3) := by decide +kernel
theorem d_Desk_pole_35 : decode b_Desk_pole 35 = .ok (.getfield 49, 3) := by decide +kernel
theorem d_Desk_pole_38 : decode b_Desk_pole 38 = .ok (.iconst 0, 1) := by decide +kernel
theorem d_Desk_pole_39 : decode b_Desk_pole 39 = .ok (.iconst 1, 1) := by decide +kernel
theorem d_Desk_pole_40 : decode b_Desk_pole 40 = .ok (.invokevirtual 53, 3) := by decide +kernel
theorem d_Desk_pole_43 : decode b_Desk_pole 43 = .ok (.aload_n 0, 1) := by decide +kernel
theorem d_Desk_pole_44 : decode b_Desk_pole 44 = .ok (.getfield 18, 3) := by decide +kernel
theorem d_Desk_pole_47 : decode b_Desk_pole 47 = .ok (.getfield 73, 3) := by decide +kernel
theorem d_Desk_pole_50 : decode b_Desk_pole 50 = .ok (.iload_n 2, 1) := by decide +kernel
theorem d_Desk_pole_51 : decode b_Desk_pole 51 = .ok (.iload_n 3, 1) := by decide +kernel
theorem d_Desk_pole_52 : decode b_Desk_pole 52 = .ok (.iastore, 1) := by decide +kernel
theorem d_Desk_pole_53 : decode b_Desk_pole 53 = .ok (.aload_n 0, 1) := by decide +kernel
theorem d_Desk_pole_54 : decode b_Desk_pole 54 = .ok (.iload_n 1, 1) := by decide +kernel
theorem d_Desk_pole_55 : decode b_Desk_pole 55 = .ok (.invokevirtual 59, 3) := by decide +kernel
theorem d_Desk_pole_58 : decode b_Desk_pole 58 = .ok (.ireturn, 1) := by decide +kernel
theorem d_Desk_isPole_0 : decode b_Desk_isPole 0 = .ok (.iload_n 0, 1) := by decide +kernel
theorem d_Desk_isPole_1 : decode b_Desk_isPole 1 = .ok (.ifCond .lt 13, 3) := by decide +kernel
theorem d_Desk_isPole_4 : decode b_Desk_isPole 4 = .ok (.iload_n 0, 1) := by decide +kernel
theorem d_Desk_isPole_5 : decode b_Desk_isPole 5 = .ok (.bipush 8, 2) := by decide +kernel
theorem d_Desk_isPole_7 : decode b_Desk_isPole 7 = .ok (.if_icmp .ge 7, 3) := by decide +kernel
theorem d_Desk_isPole_10 : decode b_Desk_isPole 10 = .ok (.iconst 1, 1) := by decide +kernel
theorem d_Desk_isPole_11 : decode b_Desk_isPole 11 = .ok (.goto 4, 3) := by decide +kernel
theorem d_Desk_isPole_14 : decode b_Desk_isPole 14 = .ok (.iconst 0, 1) := by decide +kernel
theorem d_Desk_isPole_15 : decode b_Desk_isPole 15 = .ok (.ireturn, 1) := by decide +kernel
theorem d_Desk_isPositiveExponent_0 : decode b_Desk_isPositiveExponent 0 = .ok (.iload_n 0, 1) := by decide +kernel
theorem d_Desk_isPositiveExponent_1 : decode b_Desk_isPositiveExponent 1 = .ok (.iconst 1, 1) := by decide +kernel
theorem d_Desk_isPositiveExponent_2 : decode b_Desk_isPositiveExponent 2 = .ok (.if_icmp .lt 12, 3) := by decide +kernel
theorem d_Desk_isPositiveExponent_5 : decode b_Desk_isPositiveExponent 5 = .ok (.iload_n 0, 1) := by decide +kernel
theorem d_Desk_isPositiveExponent_6 : decode b_Desk_isPositiveExponent 6 = .ok (.iconst 3, 1) := by decide +kernel
theorem d_Desk_isPositiveExponent_7 : decode b_Desk_isPositiveExponent 7 = .ok (.if_icmp .gt 7, 3) := by decide +kernel
theorem d_Desk_isPositiveExponent_10 : decode b_Desk_isPositiveExponent 10 = .ok (.iconst 1, 1) := by decide +kernel
theorem d_Desk_isPositiveExponent_11 : decode b_Desk_isPositiveExponent 11 = .ok (.goto 4, 3) := by decide +kernel
theorem d_Desk_isPositiveExponent_14 : decode b_Desk_isPositiveExponent 14 = .ok (.iconst 0, 1) := by decide +kernel
theorem d_Desk_isPositiveExponent_15 : decode b_Desk_isPositiveExponent 15 = .ok (.ireturn, 1) := by decide +kernel
theorem d_Desk_add_0 : decode b_Desk_add 0 = .ok (.iload_n 1, 1) := by decide +kernel
theorem d_Desk_add_1 : decode b_Desk_add 1 = .ok (.invokestatic 39, 3) := by decide +kernel
theorem d_Desk_add_4 : decode b_Desk_add 4 = .ok (.ifCond .eq 17, 3) := by decide +kernel
theorem d_Desk_add_7 : decode b_Desk_add 7 = .ok (.iload_n 2, 1) := by decide +kernel
theorem d_Desk_add_8 : decode b_Desk_add 8 = .ok (.invokestatic 39, 3) := by decide +kernel
theorem d_Desk_add_11 : decode b_Desk_add 11 = .ok (.ifCond .eq 10, 3) := by decide +kernel
theorem d_Desk_add_14 : decode b_Desk_add 14 = .ok (.iload_n 3, 1) := by decide +kernel
theorem d_Desk_add_15 : decode b_Desk_add 15 = .ok (.invokestatic 39, 3) := by decide +kernel
theorem d_Desk_add_18 : decode b_Desk_add 18 = .ok (.ifCond .ne 6, 3) := by decide +kernel
theorem d_Desk_add_21 : decode b_Desk_add 21 = .ok (.bipush (-9), 2) := by decide +kernel
theorem d_Desk_add_23 : decode b_Desk_add 23 = .ok (.ireturn, 1) := by decide +kernel
theorem d_Desk_add_24 : decode b_Desk_add 24 = .ok (.aload_n 0, 1) := by decide +kernel
theorem d_Desk_add_25 : decode b_Desk_add 25 = .ok (.getfield 11, 3) := by decide +kernel
theorem d_Desk_add_28 : decode b_Desk_add 28 = .ok (.iload_n 2, 1) := by decide +kernel
theorem d_Desk_add_29 : decode b_Desk_add 29 = .ok (.aaload, 1) := by decide +kernel
theorem d_Desk_add_30 : decode b_Desk_add 30 = .ok (.invokevirtual 77, 3) := by decide +kernel
theorem d_Desk_add_33 : decode b_Desk_add 33 = .ok (.ifCond .ne 39, 3) := by decide +kernel
theorem d_Desk_add_36 : decode b_Desk_add 36 = .ok (.aload_n 0, 1) := by decide +kernel
theorem d_Desk_add_37 : decode b_Desk_add 37 = .ok (.getfield 11, 3) := by decide +kernel
theorem d_Desk_add_40 : decode b_Desk_add 40 = .ok (.iload_n 3, 1) := by decide +kernel
theorem d_Desk_add_41 : decode b_Desk_add 41 = .ok (.aaload, 1) := by decide +kernel
theorem d_Desk_add_42 : decode b_Desk_add 42 = .ok (.invokevirtual 77, 3) := by decide +kernel
theorem d_Desk_add_45 : decode b_Desk_add 45 = .ok (.ifCond .ne 27, 3) := by decide +kernel
theorem d_Desk_add_48 : decode b_Desk_add 48 = .ok (.aload_n 0, 1) := by decide +kernel
theorem d_Desk_add_49 : decode b_Desk_add 49 = .ok (.getfield 11, 3) := by decide +kernel
theorem d_Desk_add_52 : decode b_Desk_add 52 = .ok (.iload_n 2, 1) := by decide +kernel
theorem d_Desk_add_53 : decode b_Desk_add 53 = .ok (.aaload, 1) := by decide +kernel
theorem d_Desk_add_54 : decode b_Desk_add 54 = .ok (.getfield 63, 3) := by decide +kernel
theorem d_Desk_add_57 : decode b_Desk_add 57 = .ok (.aload_n 0, 1) := by decide +kernel
theorem d_Desk_add_58 : decode b_Desk_add 58 = .ok (.getfield 11, 3) := by decide +kernel
theorem d_Desk_add_61 : decode b_Desk_add 61 = .ok (.iload_n 3, 1) := by decide +kernel
theorem d_Desk_add_62 : decode b_Desk_add 62 = .ok (.aaload, 1) := by decide +kernel
theorem d_Desk_add_63 : decode b_Desk_add 63 = .ok (.getfield 63, 3) := by decide +kernel
theorem d_Desk_add_66 : decode b_Desk_add 66 = .ok (.if_icmp .eq 6, 3) := by decide +kernel
theorem d_Desk_add_69 : decode b_Desk_add 69 = .ok (.bipush (-8), 2) := by decide +kernel
theorem d_Desk_add_71 : decode b_Desk_add 71 = .ok (.ireturn, 1) := by decide +kernel
theorem d_Desk_add_72 : decode b_Desk_add 72 = .ok (.aload_n 0, 1) := by decide +kernel
theorem d_Desk_add_73 : decode b_Desk_add 73 = .ok (.getfield 28, 3) := by decide +kernel
theorem d_Desk_add_76 : decode b_Desk_add 76 = .ok (.aload_n 0, 1) := by decide +kernel
theorem d_Desk_add_77 : decode b_Desk_add 77 = .ok (.getfield 18, 3) := by decide +kernel
theorem d_Desk_add_80 : decode b_Desk_add 80 = .ok (.aload_n 0, 1) := by decide +kernel
theorem d_Desk_add_81 : decode b_Desk_add 81 = .ok (.getfield 11, 3) := by decide +kernel
theorem d_Desk_add_84 : decode b_Desk_add 84 = .ok (.iload_n 2, 1) := by decide +kernel
theorem d_Desk_add_85 : decode b_Desk_add 85 = .ok (.aaload, 1) := by decide +kernel
theorem d_Desk_add_86 : decode b_Desk_add 86 = .ok (.aload_n 0, 1) := by decide +kernel
theorem d_Desk_add_87 : decode b_Desk_add 87 = .ok (.getfield 11, 3) := by decide +kernel
theorem d_Desk_add_90 : decode b_Desk_add 90 = .ok (.iload_n 3, 1) := by decide +kernel
theorem d_Desk_add_91 : decode b_Desk_add 91 = .ok (.aaload, 1) := by decide +kernel
theorem d_Desk_add_92 : decode b_Desk_add 92 = .ok (.iconst 1, 1) := by decide +kernel
theorem d_Desk_add_93 : decode b_Desk_add 93 = .ok (.invokevirtual 81, 3) := by decide +kernel
theorem d_Desk_add_96 : decode b_Desk_add 96 = .ok (.aload_n 0, 1) := by decide +kernel
theorem d_Desk_add_97 : decode b_Desk_add 97 = .ok (.iload_n 1, 1) := by decide +kernel
theorem d_Desk_add_98 : decode b_Desk_add 98 = .ok (.invokevirtual 59, 3) := by decide +kernel
theorem d_Desk_add_101 : decode b_Desk_add 101 = .ok (.ireturn, 1) := by decide +kernel
theorem d_Desk_multiply_0 : decode b_Desk_multiply 0 = .ok (.iload_n 1, 1) := by decide +kernel
theorem d_Desk_multiply_1 : decode b_Desk_multiply 1 = .ok (.invokestatic 39, 3) := by decide +kernel
theorem d_Desk_multiply_4 : decode b_Desk_multiply 4 = .ok (.ifCond .eq 17, 3) := by decide +kernel
theorem d_Desk_multiply_7 : decode b_Desk_multiply 7 = .ok (.iload_n 2, 1) := by decide +kernel
theorem d_Desk_multiply_8 : decode b_Desk_multiply 8 = .ok (.invokestatic 39, 3) := by decide +kernel
theorem d_Desk_multiply_11 : decode b_Desk_multiply 11 = .ok (.ifCond .eq 10, 3) := by decide +kernel
theorem d_Desk_multiply_14 : decode b_Desk_multiply 14 = .ok (.iload_n 3, 1) := by decide +kernel
theorem d_Desk_multiply_15 : decode b_Desk_multiply 15 = .ok (.invokestatic 39, 3) := by decide +kernel
theorem d_Desk_multiply_18 : decode b_Desk_multiply 18 = .ok (.ifCond .ne 6, 3) := by decide +kernel
theorem d_Desk_multiply_21 : decode b_Desk_multiply 21 = .ok (.bipush (-9), 2) := by decide +kernel
theorem d_Desk_multiply_23 : decode b_Desk_multiply 23 = .ok (.ireturn, 1) := by decide +kernel
theorem d_Desk_multiply_24 : decode b_Desk_multiply 24 = .ok (.aload_n 0, 1) := by decide +kernel
theorem d_Desk_multiply_25 : decode b_Desk_multiply 25 = .ok (.getfield 18, 3) := by decide +kernel
theorem d_Desk_multiply_28 : decode b_Desk_multiply 28 = .ok (.aload_n 0, 1) := by decide +kernel
theorem d_Desk_multiply_29 : decode b_Desk_multiply 29 = .ok (.getfield 11, 3) := by decide +kernel
theorem d_Desk_multiply_32 : decode b_Desk_multiply 32 = .ok (.iload_n 2, 1) := by decide +kernel
theorem d_Desk_multiply_33 : decode b_Desk_multiply 33 = .ok (.aaload, 1) := by decide +kernel
theorem d_Desk_multiply_34 : decode b_Desk_multiply 34 = .ok (.aload_n 0, 1) := by decide +kernel
theorem d_Desk_multiply_35 : decode b_Desk_multiply 35 = .ok (.getfield 11, 3) := by decide +kernel
theorem d_Desk_multiply_38 : decode b_Desk_multiply 38 = .ok (.iload_n 3, 1) := by decide +kernel
theorem d_Desk_multiply_39 : decode b_Desk_multiply 39 = .ok (.aaload, 1) := by decide +kernel
theorem d_Desk_multiply_40 : decode b_Desk_multiply 40 = .ok (.invokevirtual 85, 3) := by decide +kernel
theorem d_Desk_multiply_43 : decode b_Desk_multiply 43 = .ok (.aload_n 0, 1) := by decide +kernel
theorem d_Desk_multiply_44 : decode b_Desk_multiply 44 = .ok (.iload_n 1, 1) := by decide +kernel
theorem d_Desk_multiply_45 : decode b_Desk_multiply 45 = .ok (.invokevirtual 59, 3) := by decide +kernel
theorem d_Desk_multiply_48 : decode b_Desk_multiply 48 = .ok (.ireturn, 1) := by decide +kernel
theorem d_Desk_shift_0 : decode b_Desk_shift 0 = .ok (.iload_n 1, 1) := by decide +kernel
theorem d_Desk_shift_1 : decode b_Desk_shift 1 = .ok (.invokestatic 39, 3) := by decide +kernel
theorem d_Desk_shift_4 : decode b_Desk_shift 4 = .ok (.ifCond .eq 10, 3) := by decide +kernel
theorem d_Desk_shift_7 : decode b_Desk_shift 7 = .ok (.iload_n 2, 1) := by decide +kernel
theorem d_Desk_shift_8 : decode b_Desk_shift 8 = .ok (.invokestatic 39, 3) := by decide +kernel
theorem d_Desk_shift_11 : decode b_Desk_shift 11 = .ok (.ifCond .ne 6, 3) := by decide +kernel
theorem d_Desk_shift_14 : decode b_Desk_shift 14 = .ok (.bipush (-9), 2) := by decide +kernel
theorem d_Desk_shift_16 : decode b_Desk_shift 16 = .ok (.ireturn, 1) := by decide +kernel
theorem d_Desk_shift_17 : decode b_Desk_shift 17 = .ok (.aload_n 0, 1) := by decide +kernel
theorem d_Desk_shift_18 : decode b_Desk_shift 18 = .ok (.getfield 18, 3) := by decide +kernel
theorem d_Desk_shift_21 : decode b_Desk_shift 21 = .ok (.aload_n 0, 1) := by decide +kernel
theorem d_Desk_shift_22 : decode b_Desk_shift 22 = .ok (.getfield 11, 3) := by decide +kernel
theorem d_Desk_shift_25 : decode b_Desk_shift 25 = .ok (.iload_n 2, 1) := by decide +kernel
theorem d_Desk_shift_26 : decode b_Desk_shift 26 = .ok (.aaload, 1) := by decide +kernel
theorem d_Desk_shift_27 : decode b_Desk_shift 27 = .ok (.invokevirtual 89, 3) := by decide +kernel
theorem d_Desk_shift_30 : decode b_Desk_shift 30 = .ok (.aload_n 0, 1) := by decide +kernel
theorem d_Desk_shift_31 : decode b_Desk_shift 31 = .ok (.iload_n 1, 1) := by decide +kernel
theorem d_Desk_shift_32 : decode b_Desk_shift 32 = .ok (.invokevirtual 59, 3) := by decide +kernel
theorem d_Desk_shift_35 : decode b_Desk_shift 35 = .ok (.ireturn, 1) := by decide +kernel
theorem d_Desk_difference_0 : decode b_Desk_difference 0 = .ok (.iload_n 1, 1) := by decide +kernel
theorem d_Desk_difference_1 : decode b_Desk_difference 1 = .ok (.invokestatic 39, 3) := by decide +kernel
theorem d_Desk_difference_4 : decode b_Desk_difference 4 = .ok (.ifCond .eq 10, 3) := by decide +kernel
theorem d_Desk_difference_7 : decode b_Desk_difference 7 = .ok (.iload_n 2, 1) := by decide +kernel
theorem d_Desk_difference_8 : decode b_Desk_difference 8 = .ok (.invokestatic 39, 3) := by decide +kernel
theorem d_Desk_difference_11 : decode b_Desk_difference 11 = .ok (.ifCond .ne 6, 3) := by decide +kernel
theorem d_Desk_difference_14 : decode b_Desk_difference 14 = .ok (.bipush (-9), 2) := by decide +kernel
theorem d_Desk_difference_16 : decode b_Desk_difference 16 = .ok (.ireturn, 1) := by decide +kernel
theorem d_Desk_difference_17 : decode b_Desk_difference 17 = .ok (.aload_n 0, 1) := by decide +kernel
theorem d_Desk_difference_18 : decode b_Desk_difference 18 = .ok (.getfield 28, 3) := by decide +kernel
theorem d_Desk_difference_21 : decode b_Desk_difference 21 = .ok (.aload_n 0, 1) := by decide +kernel
theorem d_Desk_difference_22 : decode b_Desk_difference 22 = .ok (.getfield 18, 3) := by decide +kernel
theorem d_Desk_difference_25 : decode b_Desk_difference 25 = .ok (.aload_n 0, 1) := by decide +kernel
theorem d_Desk_difference_26 : decode b_Desk_difference 26 = .ok (.getfield 11, 3) := by decide +kernel
theorem d_Desk_difference_29 : decode b_Desk_difference 29 = .ok (.iload_n 2, 1) := by decide +kernel
theorem d_Desk_difference_30 : decode b_Desk_difference 30 = .ok (.aaload, 1) := by decide +kernel
theorem d_Desk_difference_31 : decode b_Desk_difference 31 = .ok (.invokevirtual 93, 3) := by decide +kernel
theorem d_Desk_difference_34 : decode b_Desk_difference 34 = .ok (.aload_n 0, 1) := by decide +kernel
theorem d_Desk_difference_35 : decode b_Desk_difference 35 = .ok (.iload_n 1, 1) := by decide +kernel
theorem d_Desk_difference_36 : decode b_Desk_difference 36 = .ok (.invokevirtual 59, 3) := by decide +kernel
theorem d_Desk_difference_39 : decode b_Desk_difference 39 = .ok (.ireturn, 1) := by decide +kernel
theorem d_Desk_telescope_0 : decode b_Desk_telescope 0 = .ok (.iload_n 1, 1) := by decide +kernel
theorem d_Desk_telescope_1 : decode b_Desk_telescope 1 = .ok (.invokestatic 39, 3) := by decide +kernel
theorem d_Desk_telescope_4 : decode b_Desk_telescope 4 = .ok (.ifCond .eq 22, 3) := by decide +kernel
theorem d_Desk_telescope_7 : decode b_Desk_telescope 7 = .ok (.iload_n 2, 1) := by decide +kernel
theorem d_Desk_telescope_8 : decode b_Desk_telescope 8 = .ok (.invokestatic 39, 3) := by decide +kernel
theorem d_Desk_telescope_11 : decode b_Desk_telescope 11 = .ok (.ifCond .eq 15, 3) := by decide +kernel
theorem d_Desk_telescope_14 : decode b_Desk_telescope 14 = .ok (.iload_n 3, 1) := by decide +kernel
theorem d_Desk_telescope_15 : decode b_Desk_telescope 15 = .ok (.invokestatic 39, 3) := by decide +kernel
theorem d_Desk_telescope_18 : decode b_Desk_telescope 18 = .ok (.ifCond .eq 8, 3) := by decide +kernel
theorem d_Desk_telescope_21 : decode b_Desk_telescope 21 = .ok (.iload_n 1, 1) := by decide +kernel
theorem d_Desk_telescope_22 : decode b_Desk_telescope 22 = .ok (.iload_n 2, 1) := by decide +kernel
theorem d_Desk_telescope_23 : decode b_Desk_telescope 23 = .ok (.if_icmp .ne 6, 3) := by decide +kernel
theorem d_Desk_telescope_26 : decode b_Desk_telescope 26 = .ok (.bipush (-9), 2) := by decide +kernel
theorem d_Desk_telescope_28 : decode b_Desk_telescope 28 = .ok (.ireturn, 1) := by decide +kernel
theorem d_Desk_telescope_29 : decode b_Desk_telescope 29 = .ok (.aload_n 0, 1) := by decide +kernel
theorem d_Desk_telescope_30 : decode b_Desk_telescope 30 = .ok (.getfield 35, 3) := by decide +kernel
theorem d_Desk_telescope_33 : decode b_Desk_telescope 33 = .ok (.aload_n 0, 1) := by decide +kernel
theorem d_Desk_telescope_34 : decode b_Desk_telescope 34 = .ok (.getfield 11, 3) := by decide +kernel
theorem d_Desk_telescope_37 : decode b_Desk_telescope 37 = .ok (.iload_n 3, 1) := by decide +kernel
theorem d_Desk_telescope_38 : decode b_Desk_telescope 38 = .ok (.aaload, 1) := by decide +kernel
theorem d_Desk_telescope_39 : decode b_Desk_telescope 39 = .ok (.aload_n 0, 1) := by decide +kernel
theorem d_Desk_telescope_40 : decode b_Desk_telescope 40 = .ok (.getfield 18, 3) := by decide +kernel
theorem d_Desk_telescope_43 : decode b_Desk_telescope 43 = .ok (.aload_n 0, 1) := by decide +kernel
theorem d_Desk_telescope_44 : decode b_Desk_telescope 44 = .ok (.getfield 22, 3) := by decide +kernel
theorem d_Desk_telescope_47 : decode b_Desk_telescope 47 = .ok (.invokevirtual 96, 3) := by decide +kernel
theorem d_Desk_telescope_50 : decode b_Desk_telescope 50 = .ok (.aload_n 0, 1) := by decide +kernel
theorem d_Desk_telescope_51 : decode b_Desk_telescope 51 = .ok (.getfield 18, 3) := by decide +kernel
theorem d_Desk_telescope_54 : decode b_Desk_telescope 54 = .ok (.invokevirtual 100, 3) := by decide +kernel
theorem d_Desk_telescope_57 : decode b_Desk_telescope 57 = .ok (.ifCond .eq 6, 3) := by decide +kernel
theorem d_Desk_telescope_60 : decode b_Desk_telescope 60 = .ok (.bipush (-7), 2) := by decide +kernel
theorem d_Desk_telescope_62 : decode b_Desk_telescope 62 = .ok (.ireturn, 1) := by decide +kernel
theorem d_Desk_telescope_63 : decode b_Desk_telescope 63 = .ok (.aload_n 0, 1) := by decide +kernel
theorem d_Desk_telescope_64 : decode b_Desk_telescope 64 = .ok (.getfield 11, 3) := by decide +kernel
theorem d_Desk_telescope_67 : decode b_Desk_telescope 67 = .ok (.iload_n 1, 1) := by decide +kernel
theorem d_Desk_telescope_68 : decode b_Desk_telescope 68 = .ok (.aaload, 1) := by decide +kernel
theorem d_Desk_telescope_69 : decode b_Desk_telescope 69 = .ok (.aload_n 0, 1) := by decide +kernel
theorem d_Desk_telescope_70 : decode b_Desk_telescope 70 = .ok (.getfield 18, 3) := by decide +kernel
theorem d_Desk_telescope_73 : decode b_Desk_telescope 73 = .ok (.invokevirtual 103, 3) := by decide +kernel
theorem d_Desk_telescope_76 : decode b_Desk_telescope 76 = .ok (.aload_n 0, 1) := by decide +kernel
theorem d_Desk_telescope_77 : decode b_Desk_telescope 77 = .ok (.getfield 11, 3) := by decide +kernel
theorem d_Desk_telescope_80 : decode b_Desk_telescope 80 = .ok (.iload_n 2, 1) := by decide +kernel
theorem d_Desk_telescope_81 : decode b_Desk_telescope 81 = .ok (.aaload, 1) := by decide +kernel
theorem d_Desk_telescope_82 : decode b_Desk_telescope 82 = .ok (.aload_n 0, 1) := by decide +kernel
theorem d_Desk_telescope_83 : decode b_Desk_telescope 83 = .ok (.getfield 22, 3) := by decide +kernel
theorem d_Desk_telescope_86 : decode b_Desk_telescope 86 = .ok (.invokevirtual 103, 3) := by decide +kernel
theorem d_Desk_telescope_89 : decode b_Desk_telescope 89 = .ok (.aload_n 0, 1) := by decide +kernel
theorem d_Desk_telescope_90 : decode b_Desk_telescope 90 = .ok (.getfield 22, 3) := by decide +kernel
theorem d_Desk_telescope_93 : decode b_Desk_telescope 93 = .ok (.invokevirtual 77, 3) := by decide +kernel
theorem d_Desk_telescope_96 : decode b_Desk_telescope 96 = .ok (.ifCond .eq 7, 3) := by decide +kernel
theorem d_Desk_telescope_99 : decode b_Desk_telescope 99 = .ok (.iconst 1, 1) := by decide +kernel
theorem d_Desk_telescope_100 : decode b_Desk_telescope 100 = .ok (.goto 4, 3) := by decide +kernel
theorem d_Desk_telescope_103 : decode b_Desk_telescope 103 = .ok (.iconst 0, 1) := by decide +kernel
theorem d_Desk_telescope_104 : decode b_Desk_telescope 104 = .ok (.ireturn, 1) := by decide +kernel
theorem d_Desk_check_0 : decode b_Desk_check 0 = .ok (.iload_n 1, 1) := by decide +kernel
theorem d_Desk_check_1 : decode b_Desk_check 1 = .ok (.invokestatic 39, 3) := by decide +kernel
theorem d_Desk_check_4 : decode b_Desk_check 4 = .ok (.ifCond .eq 10, 3) := by decide +kernel
theorem d_Desk_check_7 : decode b_Desk_check 7 = .ok (.iload_n 2, 1) := by decide +kernel
theorem d_Desk_check_8 : decode b_Desk_check 8 = .ok (.invokestatic 39, 3) := by decide +kernel
theorem d_Desk_check_11 : decode b_Desk_check 11 = .ok (.ifCond .ne 5, 3) := by decide +kernel
theorem d_Desk_check_14 : decode b_Desk_check 14 = .ok (.iconst 0, 1) := by decide +kernel
theorem d_Desk_check_15 : decode b_Desk_check 15 = .ok (.ireturn, 1) := by decide +kernel
theorem d_Desk_check_16 : decode b_Desk_check 16 = .ok (.aload_n 0, 1) := by decide +kernel
theorem d_Desk_check_17 : decode b_Desk_check 17 = .ok (.getfield 28, 3) := by decide +kernel
theorem d_Desk_check_20 : decode b_Desk_check 20 = .ok (.aload_n 0, 1) := by decide +kernel
theorem d_Desk_check_21 : decode b_Desk_check 21 = .ok (.getfield 18, 3) := by decide +kernel
theorem d_Desk_check_24 : decode b_Desk_check 24 = .ok (.aload_n 0, 1) := by decide +kernel
theorem d_Desk_check_25 : decode b_Desk_check 25 = .ok (.getfield 11, 3) := by decide +kernel
theorem d_Desk_check_28 : decode b_Desk_check 28 = .ok (.iload_n 1, 1) := by decide +kernel
theorem d_Desk_check_29 : decode b_Desk_check 29 = .ok (.aaload, 1) := by decide +kernel
theorem d_Desk_check_30 : decode b_Desk_check 30 = .ok (.invokevirtual 93, 3) := by decide +kernel
theorem d_Desk_check_33 : decode b_Desk_check 33 = .ok (.aload_n 0, 1) := by decide +kernel
theorem d_Desk_check_34 : decode b_Desk_check 34 = .ok (.getfield 18, 3) := by decide +kernel
theorem d_Desk_check_37 : decode b_Desk_check 37 = .ok (.invokevirtual 100, 3) := by decide +kernel
theorem d_Desk_check_40 : decode b_Desk_check 40 = .ok (.ifCond .ne 23, 3) := by decide +kernel
theorem d_Desk_check_43 : decode b_Desk_check 43 = .ok (.aload_n 0, 1) := by decide +kernel
theorem d_Desk_check_44 : decode b_Desk_check 44 = .ok (.getfield 18, 3) := by decide +kernel
theorem d_Desk_check_47 : decode b_Desk_check 47 = .ok (.aload_n 0, 1) := by decide +kernel
theorem d_Desk_check_48 : decode b_Desk_check 48 = .ok (.getfield 11, 3) := by decide +kernel
theorem d_Desk_check_51 : decode b_Desk_check 51 = .ok (.iload_n 2, 1) := by decide +kernel
theorem d_Desk_check_52 : decode b_Desk_check 52 = .ok (.aaload, 1) := by decide +kernel
theorem d_Desk_check_53 : decode b_Desk_check 53 = .ok (.invokevirtual 106, 3) := by decide +kernel
theorem d_Desk_check_56 : decode b_Desk_check 56 = .ok (.ifCond .eq 7, 3) := by decide +kernel
theorem d_Desk_check_59 : decode b_Desk_check 59 = .ok (.iconst 1, 1) := by decide +kernel
theorem d_Desk_check_60 : decode b_Desk_check 60 = .ok (.goto 4, 3) := by decide +kernel
theorem d_Desk_check_63 : decode b_Desk_check 63 = .ok (.iconst 0, 1) := by decide +kernel
theorem d_Desk_check_64 : decode b_Desk_check 64 = .ok (.ireturn, 1) := by decide +kernel
theorem d_Desk_same_0 : decode b_Desk_same 0 = .ok (.iload_n 1, 1) := by decide +kernel
theorem d_Desk_same_1 : decode b_Desk_same 1 = .ok (.invokestatic 39, 3) := by decide +kernel
theorem d_Desk_same_4 : decode b_Desk_same 4 = .ok (.ifCond .eq 32, 3) := by decide +kernel
theorem d_Desk_same_7 : decode b_Desk_same 7 = .ok (.iload_n 2, 1) := by decide +kernel
theorem d_Desk_same_8 : decode b_Desk_same 8 = .ok (.invokestatic 39, 3) := by decide +kernel
theorem d_Desk_same_11 : decode b_Desk_same 11 = .ok (.ifCond .eq 25, 3) := by decide +kernel
theorem d_Desk_same_14 : decode b_Desk_same 14 = .ok (.aload_n 0, 1) := by decide +kernel
theorem d_Desk_same_15 : decode b_Desk_same 15 = .ok (.getfield 11, 3) := by decide +kernel
theorem d_Desk_same_18 : decode b_Desk_same 18 = .ok (.iload_n 1, 1) := by decide +kernel
theorem d_Desk_same_19 : decode b_Desk_same 19 = .ok (.aaload, 1) := by decide +kernel
theorem d_Desk_same_20 : decode b_Desk_same 20 = .ok (.aload_n 0, 1) := by decide +kernel
theorem d_Desk_same_21 : decode b_Desk_same 21 = .ok (.getfield 11, 3) := by decide +kernel
theorem d_Desk_same_24 : decode b_Desk_same 24 = .ok (.iload_n 2, 1) := by decide +kernel
theorem d_Desk_same_25 : decode b_Desk_same 25 = .ok (.aaload, 1) := by decide +kernel
theorem d_Desk_same_26 : decode b_Desk_same 26 = .ok (.invokevirtual 106, 3) := by decide +kernel
theorem d_Desk_same_29 : decode b_Desk_same 29 = .ok (.ifCond .eq 7, 3) := by decide +kernel
theorem d_Desk_same_32 : decode b_Desk_same 32 = .ok (.iconst 1, 1) := by decide +kernel
theorem d_Desk_same_33 : decode b_Desk_same 33 = .ok (.goto 4, 3) := by decide +kernel
theorem d_Desk_same_36 : decode b_Desk_same 36 = .ok (.iconst 0, 1) := by decide +kernel
theorem d_Desk_same_37 : decode b_Desk_same 37 = .ok (.ireturn, 1) := by decide +kernel
theorem d_Desk_ratio_0 : decode b_Desk_ratio 0 = .ok (.iload_n 1, 1) := by decide +kernel
theorem d_Desk_ratio_1 : decode b_Desk_ratio 1 = .ok (.invokestatic 39, 3) := by decide +kernel
theorem d_Desk_ratio_4 : decode b_Desk_ratio 4 = .ok (.ifCond .eq 15, 3) := by decide +kernel
theorem d_Desk_ratio_7 : decode b_Desk_ratio 7 = .ok (.aload_n 0, 1) := by decide +kernel
theorem d_Desk_ratio_8 : decode b_Desk_ratio 8 = .ok (.getfield 11, 3) := by decide +kernel
theorem d_Desk_ratio_11 : decode b_Desk_ratio 11 = .ok (.iload_n 1, 1) := by decide +kernel
theorem d_Desk_ratio_12 : decode b_Desk_ratio 12 = .ok (.aaload, 1) := by decide +kernel
theorem d_Desk_ratio_13 : decode b_Desk_ratio 13 = .ok (.getfield 63, 3) := by decide +kernel
theorem d_Desk_ratio_16 : decode b_Desk_ratio 16 = .ok (.goto 5, 3) := by decide +kernel
theorem d_Desk_ratio_19 : decode b_Desk_ratio 19 = .ok (.bipush (-9), 2) := by decide +kernel
theorem d_Desk_ratio_21 : decode b_Desk_ratio 21 = .ok (.ireturn, 1) := by decide +kernel
theorem d_Desk_degree_0 : decode b_Desk_degree 0 = .ok (.iload_n 1, 1) := by decide +kernel
theorem d_Desk_degree_1 : decode b_Desk_degree 1 = .ok (.invokestatic 39, 3) := by decide +kernel
theorem d_Desk_degree_4 : decode b_Desk_degree 4 = .ok (.ifCond .eq 18, 3) := by decide +kernel
theorem d_Desk_degree_7 : decode b_Desk_degree 7 = .ok (.aload_n 0, 1) := by decide +kernel
theorem d_Desk_degree_8 : decode b_Desk_degree 8 = .ok (.getfield 11, 3) := by decide +kernel
theorem d_Desk_degree_11 : decode b_Desk_degree 11 = .ok (.iload_n 1, 1) := by decide +kernel
theorem d_Desk_degree_12 : decode b_Desk_degree 12 = .ok (.aaload, 1) := by decide +kernel
theorem d_Desk_degree_13 : decode b_Desk_degree 13 = .ok (.getfield 49, 3) := by decide +kernel
theorem d_Desk_degree_16 : decode b_Desk_degree 16 = .ok (.getfield 110, 3) := by decide +kernel
theorem d_Desk_degree_19 : decode b_Desk_degree 19 = .ok (.goto 5, 3) := by decide +kernel
theorem d_Desk_degree_22 : decode b_Desk_degree 22 = .ok (.bipush (-9), 2) := by decide +kernel
theorem d_Desk_degree_24 : decode b_Desk_degree 24 = .ok (.ireturn, 1) := by decide +kernel
theorem d_Desk_coefficient_0 : decode b_Desk_coefficient 0 = .ok (.iload_n 1, 1) := by decide +kernel
theorem d_Desk_coefficient_1 : decode b_Desk_coefficient 1 = .ok (.invokestatic 39, 3) := by decide +kernel
theorem d_Desk_coefficient_4 : decode b_Desk_coefficient 4 = .ok (.ifCond .eq 13, 3) := by decide +kernel
theorem d_Desk_coefficient_7 : decode b_Desk_coefficient 7 = .ok (.iload_n 2, 1) := by decide +kernel
theorem d_Desk_coefficient_8 : decode b_Desk_coefficient 8 = .ok (.ifCond .lt 9, 3) := by decide +kernel
theorem d_Desk_coefficient_11 : decode b_Desk_coefficient 11 = .ok (.iload_n 2, 1) := by decide +kernel
theorem d_Desk_coefficient_12 : decode b_Desk_coefficient 12 = .ok (.bipush 31, 2) := by decide +kernel
theorem d_Desk_coefficient_14 : decode b_Desk_coefficient 14 = .ok (.if_icmp .le 6, 3) := by decide +kernel
theorem d_Desk_coefficient_17 : decode b_Desk_coefficient 17 = .ok (.bipush (-9), 2) := by decide +kernel
theorem d_Desk_coefficient_19 : decode b_Desk_coefficient 19 = .ok (.ireturn, 1) := by decide +kernel
theorem d_Desk_coefficient_20 : decode b_Desk_coefficient 20 = .ok (.aload_n 0, 1) := by decide +kernel
theorem d_Desk_coefficient_21 : decode b_Desk_coefficient 21 = .ok (.getfield 11, 3) := by decide +kernel
theorem d_Desk_coefficient_24 : decode b_Desk_coefficient 24 = .ok (.iload_n 1, 1) := by decide +kernel
theorem d_Desk_coefficient_25 : decode b_Desk_coefficient 25 = .ok (.aaload, 1) := by decide +kernel
theorem d_Desk_coefficient_26 : decode b_Desk_coefficient 26 = .ok (.getfield 49, 3) := by decide +kernel
theorem d_Desk_coefficient_29 : decode b_Desk_coefficient 29 = .ok (.getfield 113, 3) := by decide +kernel
theorem d_Desk_coefficient_32 : decode b_Desk_coefficient 32 = .ok (.iload_n 2, 1) := by decide +kernel
theorem d_Desk_coefficient_33 : decode b_Desk_coefficient 33 = .ok (.iaload, 1) := by decide +kernel
theorem d_Desk_coefficient_34 : decode b_Desk_coefficient 34 = .ok (.ireturn, 1) := by decide +kernel
theorem d_Desk_exponent_0 : decode b_Desk_exponent 0 = .ok (.iload_n 1, 1) := by decide +kernel
theorem d_Desk_exponent_1 : decode b_Desk_exponent 1 = .ok (.invokestatic 39, 3) := by decide +kernel
theorem d_Desk_exponent_4 : decode b_Desk_exponent 4 = .ok (.ifCond .eq 24, 3) := by decide +kernel
theorem d_Desk_exponent_7 : decode b_Desk_exponent 7 = .ok (.iload_n 2, 1) := by decide +kernel
theorem d_Desk_exponent_8 : decode b_Desk_exponent 8 = .ok (.invokestatic 67, 3) := by decide +kernel
theorem d_Desk_exponent_11 : decode b_Desk_exponent 11 = .ok (.ifCond .eq 17, 3) := by decide +kernel
theorem d_Desk_exponent_14 : decode b_Desk_exponent 14 = .ok (.aload_n 0, 1) := by decide +kernel
theorem d_Desk_exponent_15 : decode b_Desk_exponent 15 = .ok (.getfield 11, 3) := by decide +kernel
theorem d_Desk_exponent_18 : decode b_Desk_exponent 18 = .ok (.iload_n 1, 1) := by decide +kernel
theorem d_Desk_exponent_19 : decode b_Desk_exponent 19 = .ok (.aaload, 1) := by decide +kernel
theorem d_Desk_exponent_20 : decode b_Desk_exponent 20 = .ok (.getfield 73, 3) := by decide +kernel
theorem d_Desk_exponent_23 : decode b_Desk_exponent 23 = .ok (.iload_n 2, 1) := by decide +kernel
theorem d_Desk_exponent_24 : decode b_Desk_exponent 24 = .ok (.iaload, 1) := by decide +kernel
theorem d_Desk_exponent_25 : decode b_Desk_exponent 25 = .ok (.goto 5, 3) := by decide +kernel
theorem d_Desk_exponent_28 : decode b_Desk_exponent 28 = .ok (.bipush (-9), 2) := by decide +kernel
theorem d_Desk_exponent_30 : decode b_Desk_exponent 30 = .ok (.ireturn, 1) := by decide +kernel
theorem d_Desk_weight_0 : decode b_Desk_weight 0 = .ok (.iload_n 1, 1) := by decide +kernel
theorem d_Desk_weight_1 : decode b_Desk_weight 1 = .ok (.invokestatic 39, 3) := by decide +kernel
theorem d_Desk_weight_4 : decode b_Desk_weight 4 = .ok (.ifCond .eq 17, 3) := by decide +kernel
theorem d_Desk_weight_7 : decode b_Desk_weight 7 = .ok (.iload_n 2, 1) := by decide +kernel
theorem d_Desk_weight_8 : decode b_Desk_weight 8 = .ok (.invokestatic 67, 3) := by decide +kernel
theorem d_Desk_weight_11 : decode b_Desk_weight 11 = .ok (.ifCond .eq 10, 3) := by decide +kernel
theorem d_Desk_weight_14 : decode b_Desk_weight 14 = .ok (.iload_n 3, 1) := by decide +kernel
theorem d_Desk_weight_15 : decode b_Desk_weight 15 = .ok (.invokestatic 70, 3) := by decide +kernel
theorem d_Desk_weight_18 : decode b_Desk_weight 18 = .ok (.ifCond .ne 6, 3) := by decide +kernel
theorem d_Desk_weight_21 : decode b_Desk_weight 21 = .ok (.bipush (-9), 2) := by decide +kernel
theorem d_Desk_weight_23 : decode b_Desk_weight 23 = .ok (.ireturn, 1) := by decide +kernel
theorem d_Desk_weight_24 : decode b_Desk_weight 24 = .ok (.aload_n 0, 1) := by decide +kernel
theorem d_Desk_weight_25 : decode b_Desk_weight 25 = .ok (.getfield 35, 3) := by decide +kernel
theorem d_Desk_weight_28 : decode b_Desk_weight 28 = .ok (.aload_n 0, 1) := by decide +kernel
theorem d_Desk_weight_29 : decode b_Desk_weight 29 = .ok (.getfield 11, 3) := by decide +kernel
theorem d_Desk_weight_32 : decode b_Desk_weight 32 = .ok (.iload_n 1, 1) := by decide +kernel
theorem d_Desk_weight_33 : decode b_Desk_weight 33 = .ok (.aaload, 1) := by decide +kernel
theorem d_Desk_weight_34 : decode b_Desk_weight 34 = .ok (.iload_n 2, 1) := by decide +kernel
theorem d_Desk_weight_35 : decode b_Desk_weight 35 = .ok (.iload_n 3, 1) := by decide +kernel
theorem d_Desk_weight_36 : decode b_Desk_weight 36 = .ok (.invokevirtual 116, 3) := by decide +kernel
theorem d_Desk_weight_39 : decode b_Desk_weight 39 = .ok (.ireturn, 1) := by decide +kernel
theorem d_Desk_value_0 : decode b_Desk_value 0 = .ok (.iload_n 1, 1) := by decide +kernel
theorem d_Desk_value_1 : decode b_Desk_value 1 = .ok (.invokestatic 39, 3) := by decide +kernel
theorem d_Desk_value_4 : decode b_Desk_value 4 = .ok (.ifCond .eq 10, 3) := by decide +kernel
theorem d_Desk_value_7 : decode b_Desk_value 7 = .ok (.iload_n 2, 1) := by decide +kernel
theorem d_Desk_value_8 : decode b_Desk_value 8 = .ok (.invokestatic 120, 3) := by decide +kernel
theorem d_Desk_value_11 : decode b_Desk_value 11 = .ok (.ifCond .ne 6, 3) := by decide +kernel
theorem d_Desk_value_14 : decode b_Desk_value 14 = .ok (.bipush (-9), 2) := by decide +kernel
theorem d_Desk_value_16 : decode b_Desk_value 16 = .ok (.ireturn, 1) := by decide +kernel
theorem d_Desk_value_17 : decode b_Desk_value 17 = .ok (.aload_n 0, 1) := by decide +kernel
theorem d_Desk_value_18 : decode b_Desk_value 18 = .ok (.getfield 11, 3) := by decide +kernel
theorem d_Desk_value_21 : decode b_Desk_value 21 = .ok (.iload_n 1, 1) := by decide +kernel
theorem d_Desk_value_22 : decode b_Desk_value 22 = .ok (.aaload, 1) := by decide +kernel
theorem d_Desk_value_23 : decode b_Desk_value 23 = .ok (.iload_n 2, 1) := by decide +kernel
theorem d_Desk_value_24 : decode b_Desk_value 24 = .ok (.invokevirtual 123, 3) := by decide +kernel
theorem d_Desk_value_27 : decode b_Desk_value 27 = .ok (.ifCond .eq 16, 3) := by decide +kernel
theorem d_Desk_value_30 : decode b_Desk_value 30 = .ok (.aload_n 0, 1) := by decide +kernel
theorem d_Desk_value_31 : decode b_Desk_value 31 = .ok (.getfield 11, 3) := by decide +kernel
theorem d_Desk_value_34 : decode b_Desk_value 34 = .ok (.iload_n 1, 1) := by decide +kernel
theorem d_Desk_value_35 : decode b_Desk_value 35 = .ok (.aaload, 1) := by decide +kernel
theorem d_Desk_value_36 : decode b_Desk_value 36 = .ok (.iload_n 2, 1) := by decide +kernel
theorem d_Desk_value_37 : decode b_Desk_value 37 = .ok (.invokevirtual 126, 3) := by decide +kernel
theorem d_Desk_value_40 : decode b_Desk_value 40 = .ok (.goto 5, 3) := by decide +kernel
theorem d_Desk_value_43 : decode b_Desk_value 43 = .ok (.bipush (-6), 2) := by decide +kernel
theorem d_Desk_value_45 : decode b_Desk_value 45 = .ok (.ireturn, 1) := by decide +kernel
theorem d_Desk_isPlace_0 : decode b_Desk_isPlace 0 = .ok (.iload_n 0, 1) := by decide +kernel
theorem d_Desk_isPlace_1 : decode b_Desk_isPlace 1 = .ok (.bipush (-30), 2) := by decide +kernel
theorem d_Desk_isPlace_3 : decode b_Desk_isPlace 3 = .ok (.if_icmp .lt 14, 3) := by decide +kernel
theorem d_Desk_isPlace_6 : decode b_Desk_isPlace 6 = .ok (.iload_n 0, 1) := by decide +kernel
theorem d_Desk_isPlace_7 : decode b_Desk_isPlace 7 = .ok (.sipush 1000, 3) := by decide +kernel
theorem d_Desk_isPlace_10 : decode b_Desk_isPlace 10 = .ok (.if_icmp .gt 7, 3) := by decide +kernel
theorem d_Desk_isPlace_13 : decode b_Desk_isPlace 13 = .ok (.iconst 1, 1) := by decide +kernel
theorem d_Desk_isPlace_14 : decode b_Desk_isPlace 14 = .ok (.goto 4, 3) := by decide +kernel
theorem d_Desk_isPlace_17 : decode b_Desk_isPlace 17 = .ok (.iconst 0, 1) := by decide +kernel
theorem d_Desk_isPlace_18 : decode b_Desk_isPlace 18 = .ok (.ireturn, 1) := by decide +kernel
theorem d_Desk_sum_0 : decode b_Desk_sum 0 = .ok (.iload_n 1, 1) := by decide +kernel
theorem d_Desk_sum_1 : decode b_Desk_sum 1 = .ok (.invokestatic 39, 3) := by decide +kernel
theorem d_Desk_sum_4 : decode b_Desk_sum 4 = .ok (.ifCond .eq 17, 3) := by decide +kernel
theorem d_Desk_sum_7 : decode b_Desk_sum 7 = .ok (.iload_n 2, 1) := by decide +kernel
theorem d_Desk_sum_8 : decode b_Desk_sum 8 = .ok (.invokestatic 120, 3) := by decide +kernel
theorem d_Desk_sum_11 : decode b_Desk_sum 11 = .ok (.ifCond .eq 10, 3) := by decide +kernel
theorem d_Desk_sum_14 : decode b_Desk_sum 14 = .ok (.iload_n 3, 1) := by decide +kernel
theorem d_Desk_sum_15 : decode b_Desk_sum 15 = .ok (.invokestatic 120, 3) := by decide +kernel
theorem d_Desk_sum_18 : decode b_Desk_sum 18 = .ok (.ifCond .ne 6, 3) := by decide +kernel
theorem d_Desk_sum_21 : decode b_Desk_sum 21 = .ok (.bipush (-9), 2) := by decide +kernel
theorem d_Desk_sum_23 : decode b_Desk_sum 23 = .ok (.ireturn, 1) := by decide +kernel
theorem d_Desk_sum_24 : decode b_Desk_sum 24 = .ok (.iconst 0, 1) := by decide +kernel
theorem d_Desk_sum_25 : decode b_Desk_sum 25 = .ok (.istore 4, 2) := by decide +kernel
theorem d_Desk_sum_27 : decode b_Desk_sum 27 = .ok (.iload_n 2, 1) := by decide +kernel
theorem d_Desk_sum_28 : decode b_Desk_sum 28 = .ok (.istore 5, 2) := by decide +kernel
theorem d_Desk_sum_30 : decode b_Desk_sum 30 = .ok (.iload 5, 2) := by decide +kernel
theorem d_Desk_sum_32 : decode b_Desk_sum 32 = .ok (.iload_n 3, 1) := by decide +kernel
theorem d_Desk_sum_33 : decode b_Desk_sum 33 = .ok (.if_icmp .gt 46, 3) := by decide +kernel
theorem d_Desk_sum_36 : decode b_Desk_sum 36 = .ok (.aload_n 0, 1) := by decide +kernel
theorem d_Desk_sum_37 : decode b_Desk_sum 37 = .ok (.getfield 11, 3) := by decide +kernel
theorem d_Desk_sum_40 : decode b_Desk_sum 40 = .ok (.iload_n 1, 1) := by decide +kernel
theorem d_Desk_sum_41 : decode b_Desk_sum 41 = .ok (.aaload, 1) := by decide +kernel
theorem d_Desk_sum_42 : decode b_Desk_sum 42 = .ok (.iload 5, 2) := by decide +kernel
theorem d_Desk_sum_44 : decode b_Desk_sum 44 = .ok (.invokevirtual 123, 3) := by decide +kernel
theorem d_Desk_sum_47 : decode b_Desk_sum 47 = .ok (.ifCond .ne 6, 3) := by decide +kernel
theorem d_Desk_sum_50 : decode b_Desk_sum 50 = .ok (.bipush (-6), 2) := by decide +kernel
theorem d_Desk_sum_52 : decode b_Desk_sum 52 = .ok (.ireturn, 1) := by decide +kernel
theorem d_Desk_sum_53 : decode b_Desk_sum 53 = .ok (.iload 4, 2) := by decide +kernel
theorem d_Desk_sum_55 : decode b_Desk_sum 55 = .ok (.aload_n 0, 1) := by decide +kernel
theorem d_Desk_sum_56 : decode b_Desk_sum 56 = .ok (.getfield 11, 3) := by decide +kernel
theorem d_Desk_sum_59 : decode b_Desk_sum 59 = .ok (.iload_n 1, 1) := by decide +kernel
theorem d_Desk_sum_60 : decode b_Desk_sum 60 = .ok (.aaload, 1) := by decide +kernel
theorem d_Desk_sum_61 : decode b_Desk_sum 61 = .ok (.iload 5, 2) := by decide +kernel
theorem d_Desk_sum_63 : decode b_Desk_sum 63 = .ok (.invokevirtual 126, 3) := by decide +kernel
theorem d_Desk_sum_66 : decode b_Desk_sum 66 = .ok (.iadd, 1) := by decide +kernel
theorem d_Desk_sum_67 : decode b_Desk_sum 67 = .ok (.sipush 10007, 3) := by decide +kernel
theorem d_Desk_sum_70 : decode b_Desk_sum 70 = .ok (.irem, 1) := by decide +kernel
theorem d_Desk_sum_71 : decode b_Desk_sum 71 = .ok (.istore 4, 2) := by decide +kernel
theorem d_Desk_sum_73 : decode b_Desk_sum 73 = .ok (.iinc 5 1, 3) := by decide +kernel
theorem d_Desk_sum_76 : decode b_Desk_sum 76 = .ok (.goto (-46), 3) := by decide +kernel
theorem d_Desk_sum_79 : decode b_Desk_sum 79 = .ok (.iload 4, 2) := by decide +kernel
theorem d_Desk_sum_81 : decode b_Desk_sum 81 = .ok (.ireturn, 1) := by decide +kernel
end
section
section D1
variable {l : Launch} {D : va_G} {cI cT : ClassId} {G : Gm} {S : Sg}
abbrev Vt : Type := Nat → (Nat → Nat) × ((Nat → Nat) × Nat)
def slf (B : Nat) : Nat → Option Nat := fun i => if i < 8 then some (B + 2 + 4 * i) else none
theorem slf_at {B k : Nat} (h : k < 8) : slf B k = some (B + 2 + 4 * k) := by
  unfold slf
  rw [if_pos h]
def isD (G : Gm) (cT : ClassId) (B : Nat) : Prop := G B = some (kObj iDesk (fun _ => [.ref (B + 1), .ref (B + 34), .ref (B + 38), .ref (B + 42), .ref (B + 49)])) ∧ G (B + 1) = some (kFix (.inl (cT, 8, .inr (.inr (.inr (.inr (slf B))))))) ∧ (∀ k, k < 8 → isT G (B + 2 + 4 * k) 32) ∧ isT G (B + 34) 64 ∧ isT G (B + 38) 64 ∧ isC G (B + 42) ∧ isS G (B + 49)
def Rep (S : Sg) (B : Nat) (V : Vt) : Prop := ∀ k, k < 8 → tIs S (B + 2 + 4 * k) 32 (V k).1 (V k).2.1 (V k).2.2
def wfT (T : (Nat → Nat) × ((Nat → Nat) × Nat)) : Prop := okP 32 T.1 ∧ (∀ i, T.2.1 i ≤ 3) ∧ (∀ i, 8 ≤ i → T.2.1 i = 0) ∧ 0 < T.2.2 ∧ T.2.2 < 10007
theorem wfT.e {T : (Nat → Nat) × ((Nat → Nat) × Nat)} (h : wfT T) : okE T.2.1 := ⟨fun i => by have := h.2.1 i; omega, fun i hi => h.2.2.1 i (by omega)⟩
def wfV (V : Vt) : Prop := ∀ k, k < 8 → wfT (V k)
abbrev exD (B : Nat) : Sg → Sg → Prop := Ex (fun a => B ≤ a ∧ a < B + 58)
theorem Rep.ex {S S1 : Sg} {B : Nat} {V : Vt} {P : Nat → Prop} (h : Rep S B V) (hx : Ex P S S1) (hd : ∀ a, B + 2 ≤ a → a < B + 34 → ¬ P a) : Rep S1 B V := fun k hk => (h k hk).ex hx (fun a h1 h2 => hd a (by omega) (by omega))
def Kp (N e : Nat → Nat) (z : Nat) (V : Vt) (s : Nat) (r : Int32) (V' : Vt) : Prop := (ovr 64 N e ∧ r = -7 ∧ V' = V) ∨ (¬ ovr 64 N e ∧ r = nI 0 ∧ V' = va_up V s (N, e, z))
def sl (x : Int32) : Prop := ∃ k, k < 8 ∧ x = nI k
def rs (x : Int32) : Prop := ∃ k, k < 10007 ∧ x = nI k
def px3 (x : Int32) : Prop := ∃ k, 1 ≤ k ∧ k ≤ 3 ∧ x = nI k
def plc (x : Int32) : Prop := -30 ≤ x.toInt ∧ x.toInt ≤ 1000
theorem nI_neg_no {x : Int32} {k : Nat} (h : x < 0) (hk : k < 2 ^ 31) (e : x = nI k) : False := by
  rw [e] at h
  exact nI_pos hk h
set_option maxHeartbeats 4000000 in
set_option maxRecDepth 100000 in
theorem c_isSlot {x : Int32} : CT (mkE l D cI cT) G y_Desk_isSlot b_Desk_isSlot 1 (some .boolean) 0 [.int x] S (Pi (fun S' r => S' = S ∧ ((r = nI 1 ∧ sl x) ∨ (r = nI 0 ∧ ¬ sl x)))) := by
  refine mk_i (by decide) (eok l D cI cT) (by simp [Value.category]) (Nat.le_of_ble_eq_true rfl) (fun J X hR => ?_)
  show J S 0 [some (.int x)] []
  refine r_iload_n X d_Desk_isSlot_0 (by rfl) ?_
  refine r_if_lt X d_Desk_isSlot_1 (tgt := 14) (by decide) (fun hc => ?_) (fun hc => ?_)
  · refine r_iconst X (x := (nI 0)) d_Desk_isSlot_14 (by decide) ?_
    exact hR _ _ _ _ d_Desk_isSlot_15 (by decide) ⟨_, rfl, rfl, Or.inr ⟨rfl, fun ⟨k, hk, e⟩ => nI_neg_no hc (by omega) e⟩⟩
  · obtain ⟨j, hj, rfl⟩ := nI_of hc
    refine r_iload_n X d_Desk_isSlot_4 (by rfl) ?_
    refine r_bipush X (x := (nI 8)) d_Desk_isSlot_5 (by decide) ?_
    refine r_icmp_geN X d_Desk_isSlot_7 (tgt := 14) (by decide) (by omega) (by omega) (fun hc => ?_) (fun hc => ?_)
    · refine r_iconst X (x := (nI 0)) d_Desk_isSlot_14 (by decide) ?_
      exact hR _ _ _ _ d_Desk_isSlot_15 (by decide) ⟨_, rfl, rfl, Or.inr ⟨rfl, fun ⟨k, hk, e⟩ => by have := (nI_eq hj (by omega)).mp e; omega⟩⟩
    · refine r_iconst X (x := (nI 1)) d_Desk_isSlot_10 (by decide) ?_
      refine r_goto X d_Desk_isSlot_11 (tgt := 15) (by decide) ?_
      exact hR _ _ _ _ d_Desk_isSlot_15 (by decide) ⟨_, rfl, rfl, Or.inl ⟨rfl, j, hc, rfl⟩⟩
set_option maxHeartbeats 4000000 in
set_option maxRecDepth 100000 in
theorem c_isPole {x : Int32} : CT (mkE l D cI cT) G y_Desk_isPole b_Desk_isPole 1 (some .boolean) 0 [.int x] S (Pi (fun S' r => S' = S ∧ ((r = nI 1 ∧ sl x) ∨ (r = nI 0 ∧ ¬ sl x)))) := by
  refine mk_i (by decide) (eok l D cI cT) (by simp [Value.category]) (Nat.le_of_ble_eq_true rfl) (fun J X hR => ?_)
  show J S 0 [some (.int x)] []
  refine r_iload_n X d_Desk_isPole_0 (by rfl) ?_
  refine r_if_lt X d_Desk_isPole_1 (tgt := 14) (by decide) (fun hc => ?_) (fun hc => ?_)
  · refine r_iconst X (x := (nI 0)) d_Desk_isPole_14 (by decide) ?_
    exact hR _ _ _ _ d_Desk_isPole_15 (by decide) ⟨_, rfl, rfl, Or.inr ⟨rfl, fun ⟨k, hk, e⟩ => nI_neg_no hc (by omega) e⟩⟩
  · obtain ⟨j, hj, rfl⟩ := nI_of hc
    refine r_iload_n X d_Desk_isPole_4 (by rfl) ?_
    refine r_bipush X (x := (nI 8)) d_Desk_isPole_5 (by decide) ?_
    refine r_icmp_geN X d_Desk_isPole_7 (tgt := 14) (by decide) (by omega) (by omega) (fun hc => ?_) (fun hc => ?_)
    · refine r_iconst X (x := (nI 0)) d_Desk_isPole_14 (by decide) ?_
      exact hR _ _ _ _ d_Desk_isPole_15 (by decide) ⟨_, rfl, rfl, Or.inr ⟨rfl, fun ⟨k, hk, e⟩ => by have := (nI_eq hj (by omega)).mp e; omega⟩⟩
    · refine r_iconst X (x := (nI 1)) d_Desk_isPole_10 (by decide) ?_
      refine r_goto X d_Desk_isPole_11 (tgt := 15) (by decide) ?_
      exact hR _ _ _ _ d_Desk_isPole_15 (by decide) ⟨_, rfl, rfl, Or.inl ⟨rfl, j, hc, rfl⟩⟩
set_option maxHeartbeats 4000000 in
set_option maxRecDepth 100000 in
theorem c_isResidue {x : Int32} : CT (mkE l D cI cT) G y_Desk_isResidue b_Desk_isResidue 1 (some .boolean) 0 [.int x] S (Pi (fun S' r => S' = S ∧ ((r = nI 1 ∧ rs x) ∨ (r = nI 0 ∧ ¬ rs x)))) := by
  refine mk_i (by decide) (eok l D cI cT) (by simp [Value.category]) (Nat.le_of_ble_eq_true rfl) (fun J X hR => ?_)
  show J S 0 [some (.int x)] []
  refine r_iload_n X d_Desk_isResidue_0 (by rfl) ?_
  refine r_if_lt X d_Desk_isResidue_1 (tgt := 15) (by decide) (fun hc => ?_) (fun hc => ?_)
  · refine r_iconst X (x := (nI 0)) d_Desk_isResidue_15 (by decide) ?_
    exact hR _ _ _ _ d_Desk_isResidue_16 (by decide) ⟨_, rfl, rfl, Or.inr ⟨rfl, fun ⟨k, hk, e⟩ => nI_neg_no hc (by omega) e⟩⟩
  · obtain ⟨j, hj, rfl⟩ := nI_of hc
    refine r_iload_n X d_Desk_isResidue_4 (by rfl) ?_
    refine r_sipush X (x := (nI 10007)) d_Desk_isResidue_5 (by decide) ?_
    refine r_icmp_geN X d_Desk_isResidue_8 (tgt := 15) (by decide) (by omega) (by omega) (fun hc => ?_) (fun hc => ?_)
    · refine r_iconst X (x := (nI 0)) d_Desk_isResidue_15 (by decide) ?_
      exact hR _ _ _ _ d_Desk_isResidue_16 (by decide) ⟨_, rfl, rfl, Or.inr ⟨rfl, fun ⟨k, hk, e⟩ => by have := (nI_eq hj (by omega)).mp e; omega⟩⟩
    · refine r_iconst X (x := (nI 1)) d_Desk_isResidue_11 (by decide) ?_
      refine r_goto X d_Desk_isResidue_12 (tgt := 16) (by decide) ?_
      exact hR _ _ _ _ d_Desk_isResidue_16 (by decide) ⟨_, rfl, rfl, Or.inl ⟨rfl, j, hc, rfl⟩⟩
set_option maxHeartbeats 4000000 in
set_option maxRecDepth 100000 in
theorem c_isPosExp {x : Int32} : CT (mkE l D cI cT) G y_Desk_isPositiveExponent b_Desk_isPositiveExponent 1 (some .boolean) 0 [.int x] S (Pi (fun S' r => S' = S ∧ ((r = nI 1 ∧ px3 x) ∨ (r = nI 0 ∧ ¬ px3 x)))) := by
  refine mk_i (by decide) (eok l D cI cT) (by simp [Value.category]) (Nat.le_of_ble_eq_true rfl) (fun J X hR => ?_)
  show J S 0 [some (.int x)] []
  refine r_iload_n X d_Desk_isPositiveExponent_0 (by rfl) ?_
  refine r_iconst X (x := (nI 1)) d_Desk_isPositiveExponent_1 (by decide) ?_
  refine r_icmp_lt X d_Desk_isPositiveExponent_2 (tgt := 14) (by decide) (fun hc => ?_) (fun hc => ?_)
  · refine r_iconst X (x := (nI 0)) d_Desk_isPositiveExponent_14 (by decide) ?_
    refine hR _ _ _ _ d_Desk_isPositiveExponent_15 (by decide) ⟨_, rfl, rfl, Or.inr ⟨rfl, fun ⟨k, hk, hk3, e⟩ => ?_⟩⟩
    rw [e] at hc
    have := (nI_ltI (by omega) (by omega)).mp hc
    omega
  · have hx0 : ¬ x < 0 := by
      intro h
      refine hc ?_
      rw [Int32.lt_iff_toInt_lt, Int32.toInt_zero] at h
      rw [Int32.lt_iff_toInt_lt, nI_toInt (by omega)]
      omega
    obtain ⟨j, hj, rfl⟩ := nI_of hx0
    have hj1 : ¬ j < 1 := fun h => hc ((nI_ltI hj (by omega)).mpr h)
    refine r_iload_n X d_Desk_isPositiveExponent_5 (by rfl) ?_
    refine r_iconst X (x := (nI 3)) d_Desk_isPositiveExponent_6 (by decide) ?_
    refine r_icmp_gtN X d_Desk_isPositiveExponent_7 (tgt := 14) (by decide) (by omega) (by omega) (fun hc => ?_) (fun hc => ?_)
    · refine r_iconst X (x := (nI 0)) d_Desk_isPositiveExponent_14 (by decide) ?_
      exact hR _ _ _ _ d_Desk_isPositiveExponent_15 (by decide) ⟨_, rfl, rfl, Or.inr ⟨rfl, fun ⟨k, hk, hk3, e⟩ => by have := (nI_eq hj (by omega)).mp e; omega⟩⟩
    · refine r_iconst X (x := (nI 1)) d_Desk_isPositiveExponent_10 (by decide) ?_
      refine r_goto X d_Desk_isPositiveExponent_11 (tgt := 15) (by decide) ?_
      exact hR _ _ _ _ d_Desk_isPositiveExponent_15 (by decide) ⟨_, rfl, rfl, Or.inl ⟨rfl, j, by omega, hc, rfl⟩⟩
set_option maxHeartbeats 4000000 in
set_option maxRecDepth 100000 in
theorem c_isPlace {x : Int32} : CT (mkE l D cI cT) G y_Desk_isPlace b_Desk_isPlace 1 (some .boolean) 0 [.int x] S (Pi (fun S' r => S' = S ∧ ((r = nI 1 ∧ plc x) ∨ (r = nI 0 ∧ ¬ plc x)))) := by
  refine mk_i (by decide) (eok l D cI cT) (by simp [Value.category]) (Nat.le_of_ble_eq_true rfl) (fun J X hR => ?_)
  show J S 0 [some (.int x)] []
  have e30 : (-30 : Int32).toInt = -30 := by decide
  have e1000 : (nI 1000).toInt = 1000 := by decide
  refine r_iload_n X d_Desk_isPlace_0 (by rfl) ?_
  refine r_bipush X (x := (-30)) d_Desk_isPlace_1 (by decide) ?_
  refine r_icmp_lt X d_Desk_isPlace_3 (tgt := 17) (by decide) (fun hc => ?_) (fun hc => ?_)
  · rw [Int32.lt_iff_toInt_lt, e30] at hc
    refine r_iconst X (x := (nI 0)) d_Desk_isPlace_17 (by decide) ?_
    exact hR _ _ _ _ d_Desk_isPlace_18 (by decide) ⟨_, rfl, rfl, Or.inr ⟨rfl, fun h => by have := h.1; omega⟩⟩
  · rw [Int32.lt_iff_toInt_lt, e30] at hc
    refine r_iload_n X d_Desk_isPlace_6 (by rfl) ?_
    refine r_sipush X (x := (nI 1000)) d_Desk_isPlace_7 (by decide) ?_
    refine r_icmp_gt X d_Desk_isPlace_10 (tgt := 17) (by decide) (fun hc2 => ?_) (fun hc2 => ?_)
    · rw [Int32.lt_iff_toInt_lt, e1000] at hc2
      refine r_iconst X (x := (nI 0)) d_Desk_isPlace_17 (by decide) ?_
      exact hR _ _ _ _ d_Desk_isPlace_18 (by decide) ⟨_, rfl, rfl, Or.inr ⟨rfl, fun h => by have := h.2; omega⟩⟩
    · rw [Int32.lt_iff_toInt_lt, e1000] at hc2
      refine r_iconst X (x := (nI 1)) d_Desk_isPlace_13 (by decide) ?_
      refine r_goto X d_Desk_isPlace_14 (tgt := 18) (by decide) ?_
      exact hR _ _ _ _ d_Desk_isPlace_18 (by decide) ⟨_, rfl, rfl, Or.inl ⟨rfl, by omega, by omega⟩⟩
set_option maxHeartbeats 4000000 in
set_option maxRecDepth 100000 in
theorem c_keep {B k z : Nat} {N e : Nat → Nat} {V : Vt} (hd : isD G cT B) (hk : k < 8) (hV : Rep S B V) (hN : okP 64 N) (hE : okE e) (hs : tIs S (B + 34) 64 N e z) : CT (mkE l D cI cT) G y_Desk_keepResult b_Desk_keepResult 2 (some .int) 3 [.ref B, .int (nI k)] S (Pi (fun S' r => ∃ V', Kp N e z V k r V' ∧ Rep S' B V' ∧ exD B S S')) := by
  obtain ⟨hB, hA, hsl, hres, hrem, hC, hSp⟩ := hd
  have hrT := hres.1
  have hkT := (hsl k hk).1
  have htp := tp_le N 64
  refine mk_i (by decide) (eok l D cI cT) (by simp [Value.category]) (Nat.le_of_ble_eq_true rfl) (fun J X hR => ?_)
  show J S 0 [some (.ref B), some (.int (nI k))] []
  refine r_aload_n X d_Desk_keepResult_0 (by rfl) ?_
  refine r_get X lf_Desk_18 d_Desk_keepResult_1 (by assumption) (by rfl) ?_
  refine r_cVi X lv_Desk_100 (c_isOver hres hE hs) (by assumption) (by decide) rfl (Nat.le_of_ble_eq_true rfl) d_Desk_keepResult_4 rfl (fun S1 r h1 => ?_)
  obtain ⟨rfl, ⟨rfl, h1⟩ | ⟨rfl, h1⟩⟩ := h1
  · refine r_if_eqN X d_Desk_keepResult_7 (tgt := 13) (by decide) (by omega) (fun hc => ?_) (fun hc => ?_)
    · omega
    · refine r_bipush X (x := (-7)) d_Desk_keepResult_10 (by decide) ?_
      exact hR _ _ _ _ d_Desk_keepResult_12 rfl ⟨_, rfl, V, Or.inl ⟨h1, rfl, rfl⟩, hV, Ex.rf _ _⟩
  · refine r_if_eqN X d_Desk_keepResult_7 (tgt := 13) (by decide) (by omega) (fun hc => ?_) (fun hc => ?_)
    · refine r_aload_n X d_Desk_keepResult_13 (by rfl) ?_
      refine r_get X lf_Desk_11 d_Desk_keepResult_14 (by assumption) (by rfl) ?_
      refine r_iload_n X d_Desk_keepResult_17 (by rfl) ?_
      refine r_aald X d_Desk_keepResult_18 (by assumption) rfl (by omega) (by omega) (slf_at (by omega)) ?_
      refine r_aload_n X d_Desk_keepResult_19 (by rfl) ?_
      refine r_get X lf_Desk_18 d_Desk_keepResult_20 (by assumption) (by rfl) ?_
      refine r_cVv X lv_Desk_103 (c_tcopy (hsl k hk) hres (by omega) hN hE hs) (by assumption) (by decide) rfl (Nat.le_of_ble_eq_true rfl) d_Desk_keepResult_23 rfl (fun S2 h2 => ?_)
      obtain ⟨h2, ho2⟩ := h2
      have hcut : cut 32 N = N := cut_id (fun i hi => by
        refine hN.tz ?_
        by_cases h : 32 < tp N 64
        · exact absurd (Or.inr (Or.inl h)) h1
        · omega)
      refine r_iconst X (x := (nI 0)) d_Desk_keepResult_26 (by decide) ?_
      refine hR _ _ _ _ d_Desk_keepResult_27 rfl ⟨_, rfl, va_up V k (N, e, z), Or.inr ⟨h1, rfl, rfl⟩, ?_, ho2.ex (fun a h1 h2 => by omega)⟩
      intro j hj
      by_cases h : j = k
      · subst h
        rw [va_up_s]
        rw [hcut] at h2
        exact h2
      · rw [va_up_n h]
        exact (hV j hj).out ho2 (by omega)
    · omega
end D1
end
section
section D2
variable {l : Launch} {D : va_G} {cI cT : ClassId} {G : Gm} {S : Sg}
theorem zero_ok (n : Nat) : okP n (fun _ => 0) := ⟨fun _ => (by decide : 0 < 10007), fun _ _ => rfl⟩
theorem zeroE_ok : okE (fun _ => 0) := ⟨fun _ => (by decide : 0 < 100), fun _ _ => rfl⟩
def O_const (V : Vt) (s c : Int32) (r : Int32) (V' : Vt) : Prop := (¬ (sl s ∧ rs c) ∧ r = -9 ∧ V' = V) ∨ ∃ k x, k < 8 ∧ x < 10007 ∧ s = nI k ∧ c = nI x ∧ Kp (lin 0 x) (fun _ => 0) 1 V k r V'
set_option maxHeartbeats 4000000 in
set_option maxRecDepth 100000 in
theorem c_constant {B : Nat} {s c : Int32} {V : Vt} (hd : isD G cT B) (hV : Rep S B V) : CT (mkE l D cI cT) G y_Desk_constant b_Desk_constant 3 (some .int) 6 [.ref B, .int s, .int c] S (Pi (fun S' r => ∃ V', O_const V s c r V' ∧ Rep S' B V' ∧ exD B S S')) := by
  have hd0 := hd
  obtain ⟨hB, hA, hsl, hres, hrem, hC, hSp⟩ := hd
  have hrT := hres.1
  have hrP := hres.2.1.1
  refine mk_i (by decide) (eok l D cI cT) (by simp [Value.category]) (Nat.le_of_ble_eq_true rfl) (fun J X hR => ?_)
  show J S 0 [some (.ref B), some (.int s), some (.int c)] []
  have hbad : ¬ (sl s ∧ rs c) → J S 14 [some (.ref B), some (.int s), some (.int c)] [] := by
    intro h
    refine r_bipush X (x := (-9)) d_Desk_constant_14 (by decide) ?_
    exact hR _ _ _ _ d_Desk_constant_16 rfl ⟨_, rfl, V, Or.inl ⟨h, rfl, rfl⟩, hV, Ex.rf _ _⟩
  refine r_iload_n X d_Desk_constant_0 (by rfl) ?_
  refine r_cSi X ls_Desk_39 c_isSlot (by decide) rfl (Nat.le_of_ble_eq_true rfl) d_Desk_constant_1 rfl (fun Sx rx hx => ?_)
  obtain ⟨hxs, hx⟩ := hx
  replace hxs := hxs.symm
  subst hxs
  rcases hx with ⟨rfl, g1⟩ | ⟨rfl, g1⟩
  rotate_left
  · refine r_if_eqN X d_Desk_constant_4 (tgt := 14) (by decide) (by omega) (fun _ => ?_) (fun hc => absurd rfl hc)
    exact hbad (fun h => g1 h.1)
  refine r_if_eqN X d_Desk_constant_4 (tgt := 14) (by decide) (by omega) (fun hc => absurd hc (by decide)) (fun _ => ?_)
  refine r_iload_n X d_Desk_constant_7 (by rfl) ?_
  refine r_cSi X ls_Desk_43 c_isResidue (by decide) rfl (Nat.le_of_ble_eq_true rfl) d_Desk_constant_8 rfl (fun Sx rx hx => ?_)
  obtain ⟨hxs, hx⟩ := hx
  replace hxs := hxs.symm
  subst hxs
  rcases hx with ⟨rfl, g2⟩ | ⟨rfl, g2⟩
  rotate_left
  · refine r_if_neN X d_Desk_constant_11 (tgt := 17) (by decide) (by omega) (fun hc => absurd rfl hc) (fun _ => ?_)
    exact hbad (fun h => g2 h.2)
  refine r_if_neN X d_Desk_constant_11 (tgt := 17) (by decide) (by omega) (fun _ => ?_) (fun hc => absurd hc (by decide))
  obtain ⟨k, hk, rfl⟩ := g1
  obtain ⟨x, hx, rfl⟩ := g2
  refine r_aload_n X d_Desk_constant_17 (by rfl) ?_
  refine r_get X lf_Desk_18 d_Desk_constant_18 (by assumption) (by rfl) ?_
  refine r_cVv X lv_Desk_46 (c_tclear hres) (by assumption) (by decide) rfl (Nat.le_of_ble_eq_true rfl) d_Desk_constant_21 rfl (fun S1 h1 => ?_)
  obtain ⟨h1, ho1⟩ := h1
  refine r_aload_n X d_Desk_constant_24 (by rfl) ?_
  refine r_get X lf_Desk_18 d_Desk_constant_25 (by assumption) (by rfl) ?_
  refine r_get X lf_Desk_49 d_Desk_constant_28 (by assumption) (by rfl) ?_
  refine r_iconst X (x := (nI 0)) d_Desk_constant_31 (by decide) ?_
  refine r_iload_n X d_Desk_constant_32 (by rfl) ?_
  refine r_cVv X lv_Desk_53 (c_setLinear (a := 0) (b := x) hres.2.1 (by decide) hx) (by assumption) (by decide) rfl (Nat.le_of_ble_eq_true rfl) d_Desk_constant_33 rfl (fun S2 h2 => ?_)
  obtain ⟨h2, ho2⟩ := h2
  have ht2 : tIs S2 (B + 34) 64 (lin 0 x) (fun _ => 0) 1 := ⟨h2, by rw [ho2.a1 (by omega)]; exact h1.2.1, by rw [ho2.a2 (by omega)]; exact h1.2.2⟩
  have hx2 : exD B S S2 := (ho1.ex (fun a h1 h2 => by omega)).trans (ho2.ex (fun a h1 h2 => by omega))
  have hV2 : Rep S2 B V := (hV.ex (ho1.ex (P := fun a => B + 34 ≤ a) (fun a h1 h2 => h1)) (fun a h1 h2 => by omega)).ex (ho2.ex (P := fun a => B + 34 ≤ a) (fun a h1 h2 => by omega)) (fun a h1 h2 => by omega)
  refine r_aload_n X d_Desk_constant_36 (by rfl) ?_
  refine r_iload_n X d_Desk_constant_37 (by rfl) ?_
  refine r_cVi X lv_Desk_59 (c_keep (k := k) hd0 hk hV2 (lin_ok (by decide) hx (by decide)) zeroE_ok ht2) (by assumption) (by decide) rfl (Nat.le_of_ble_eq_true rfl) d_Desk_constant_38 rfl (fun S3 r h3 => ?_)
  obtain ⟨V', h3, hV3, hx3⟩ := h3
  exact hR _ _ _ _ d_Desk_constant_41 rfl ⟨_, rfl, V', Or.inr ⟨k, x, hk, hx, rfl, rfl, h3⟩, hV3, hx2.trans hx3⟩
def O_lin (V : Vt) (s a b : Int32) (r : Int32) (V' : Vt) : Prop := (¬ (sl s ∧ rs a ∧ rs b) ∧ r = -9 ∧ V' = V) ∨ ∃ k x y, k < 8 ∧ x < 10007 ∧ y < 10007 ∧ s = nI k ∧ a = nI x ∧ b = nI y ∧ Kp (lin x y) (fun _ => 0) 1 V k r V'
set_option maxHeartbeats 4000000 in
set_option maxRecDepth 100000 in
theorem c_linear {B : Nat} {s c b : Int32} {V : Vt} (hd : isD G cT B) (hV : Rep S B V) : CT (mkE l D cI cT) G y_Desk_linear b_Desk_linear 4 (some .int) 6 [.ref B, .int s, .int c, .int b] S (Pi (fun S' r => ∃ V', O_lin V s c b r V' ∧ Rep S' B V' ∧ exD B S S')) := by
  have hd0 := hd
  obtain ⟨hB, hA, hsl, hres, hrem, hC, hSp⟩ := hd
  have hrT := hres.1
  have hrP := hres.2.1.1
  refine mk_i (by decide) (eok l D cI cT) (by simp [Value.category]) (Nat.le_of_ble_eq_true rfl) (fun J X hR => ?_)
  show J S 0 [some (.ref B), some (.int s), some (.int c), some (.int b)] []
  have hbad : ¬ (sl s ∧ rs c ∧ rs b) → J S 21 [some (.ref B), some (.int s), some (.int c), some (.int b)] [] := by
    intro h
    refine r_bipush X (x := (-9)) d_Desk_linear_21 (by decide) ?_
    exact hR _ _ _ _ d_Desk_linear_23 rfl ⟨_, rfl, V, Or.inl ⟨h, rfl, rfl⟩, hV, Ex.rf _ _⟩
  refine r_iload_n X d_Desk_linear_0 (by rfl) ?_
  refine r_cSi X ls_Desk_39 c_isSlot (by decide) rfl (Nat.le_of_ble_eq_true rfl) d_Desk_linear_1 rfl (fun Sx rx hx => ?_)
  obtain ⟨hxs, hx⟩ := hx
  replace hxs := hxs.symm
  subst hxs
  rcases hx with ⟨rfl, g1⟩ | ⟨rfl, g1⟩
  rotate_left
  · refine r_if_eqN X d_Desk_linear_4 (tgt := 21) (by decide) (by omega) (fun _ => ?_) (fun hc => absurd rfl hc)
    exact hbad (fun h => g1 h.1)
  refine r_if_eqN X d_Desk_linear_4 (tgt := 21) (by decide) (by omega) (fun hc => absurd hc (by decide)) (fun _ => ?_)
  refine r_iload_n X d_Desk_linear_7 (by rfl) ?_
  refine r_cSi X ls_Desk_43 c_isResidue (by decide) rfl (Nat.le_of_ble_eq_true rfl) d_Desk_linear_8 rfl (fun Sx rx hx => ?_)
  obtain ⟨hxs, hx⟩ := hx
  replace hxs := hxs.symm
  subst hxs
  rcases hx with ⟨rfl, g2⟩ | ⟨rfl, g2⟩
  rotate_left
  · refine r_if_eqN X d_Desk_linear_11 (tgt := 21) (by decide) (by omega) (fun _ => ?_) (fun hc => absurd rfl hc)
    exact hbad (fun h => g2 h.2.1)
  refine r_if_eqN X d_Desk_linear_11 (tgt := 21) (by decide) (by omega) (fun hc => absurd hc (by decide)) (fun _ => ?_)
  refine r_iload_n X d_Desk_linear_14 (by rfl) ?_
  refine r_cSi X ls_Desk_43 c_isResidue (by decide) rfl (Nat.le_of_ble_eq_true rfl) d_Desk_linear_15 rfl (fun Sx rx hx => ?_)
  obtain ⟨hxs, hx⟩ := hx
  replace hxs := hxs.symm
  subst hxs
  rcases hx with ⟨rfl, g3⟩ | ⟨rfl, g3⟩
  rotate_left
  · refine r_if_neN X d_Desk_linear_18 (tgt := 24) (by decide) (by omega) (fun hc => absurd rfl hc) (fun _ => ?_)
    exact hbad (fun h => g3 h.2.2)
  refine r_if_neN X d_Desk_linear_18 (tgt := 24) (by decide) (by omega) (fun _ => ?_) (fun hc => absurd hc (by decide))
  obtain ⟨k, hk, rfl⟩ := g1
  obtain ⟨x, hx, rfl⟩ := g2
  obtain ⟨y, hy, rfl⟩ := g3
  refine r_aload_n X d_Desk_linear_24 (by rfl) ?_
  refine r_get X lf_Desk_18 d_Desk_linear_25 (by assumption) (by rfl) ?_
  refine r_cVv X lv_Desk_46 (c_tclear hres) (by assumption) (by decide) rfl (Nat.le_of_ble_eq_true rfl) d_Desk_linear_28 rfl (fun S1 h1 => ?_)
  obtain ⟨h1, ho1⟩ := h1
  refine r_aload_n X d_Desk_linear_31 (by rfl) ?_
  refine r_get X lf_Desk_18 d_Desk_linear_32 (by assumption) (by rfl) ?_
  refine r_get X lf_Desk_49 d_Desk_linear_35 (by assumption) (by rfl) ?_
  refine r_iload_n X d_Desk_linear_38 (by rfl) ?_
  refine r_iload_n X d_Desk_linear_39 (by rfl) ?_
  refine r_cVv X lv_Desk_53 (c_setLinear (a := x) (b := y) hres.2.1 hx hy) (by assumption) (by decide) rfl (Nat.le_of_ble_eq_true rfl) d_Desk_linear_40 rfl (fun S2 h2 => ?_)
  obtain ⟨h2, ho2⟩ := h2
  have ht2 : tIs S2 (B + 34) 64 (lin x y) (fun _ => 0) 1 := ⟨h2, by rw [ho2.a1 (by omega)]; exact h1.2.1, by rw [ho2.a2 (by omega)]; exact h1.2.2⟩
  have hx2 : exD B S S2 := (ho1.ex (fun a h1 h2 => by omega)).trans (ho2.ex (fun a h1 h2 => by omega))
  have hV2 : Rep S2 B V := (hV.ex (ho1.ex (P := fun a => B + 34 ≤ a) (fun a h1 h2 => h1)) (fun a h1 h2 => by omega)).ex (ho2.ex (P := fun a => B + 34 ≤ a) (fun a h1 h2 => by omega)) (fun a h1 h2 => by omega)
  refine r_aload_n X d_Desk_linear_43 (by rfl) ?_
  refine r_iload_n X d_Desk_linear_44 (by rfl) ?_
  refine r_cVi X lv_Desk_59 (c_keep (k := k) hd0 hk hV2 (lin_ok hx hy (by decide)) zeroE_ok ht2) (by assumption) (by decide) rfl (Nat.le_of_ble_eq_true rfl) d_Desk_linear_45 rfl (fun S3 r h3 => ?_)
  obtain ⟨V', h3, hV3, hx3⟩ := h3
  exact hR _ _ _ _ d_Desk_linear_48 rfl ⟨_, rfl, V', Or.inr ⟨k, x, y, hk, hx, hy, rfl, rfl, rfl, h3⟩, hV3, hx2.trans hx3⟩
def O_pow (V : Vt) (s z : Int32) (r : Int32) (V' : Vt) : Prop := (¬ (sl s ∧ rs z ∧ z ≠ 0) ∧ r = -9 ∧ V' = V) ∨ ∃ k x, k < 8 ∧ 0 < x ∧ x < 10007 ∧ s = nI k ∧ z = nI x ∧ Kp (lin 0 1) (fun _ => 0) x V k r V'
set_option maxHeartbeats 4000000 in
set_option maxRecDepth 100000 in
theorem c_power {B : Nat} {s z : Int32} {V : Vt} (hd : isD G cT B) (hV : Rep S B V) : CT (mkE l D cI cT) G y_Desk_power b_Desk_power 3 (some .int) 6 [.ref B, .int s, .int z] S (Pi (fun S' r => ∃ V', O_pow V s z r V' ∧ Rep S' B V' ∧ exD B S S')) := by
  have hd0 := hd
  obtain ⟨hB, hA, hsl, hres, hrem, hC, hSp⟩ := hd
  have hrT := hres.1
  have hrP := hres.2.1.1
  refine mk_i (by decide) (eok l D cI cT) (by simp [Value.category]) (Nat.le_of_ble_eq_true rfl) (fun J X hR => ?_)
  show J S 0 [some (.ref B), some (.int s), some (.int z)] []
  have hbad : ¬ (sl s ∧ rs z ∧ z ≠ 0) → J S 18 [some (.ref B), some (.int s), some (.int z)] [] := by
    intro h
    refine r_bipush X (x := (-9)) d_Desk_power_18 (by decide) ?_
    exact hR _ _ _ _ d_Desk_power_20 rfl ⟨_, rfl, V, Or.inl ⟨h, rfl, rfl⟩, hV, Ex.rf _ _⟩
  refine r_iload_n X d_Desk_power_0 (by rfl) ?_
  refine r_cSi X ls_Desk_39 c_isSlot (by decide) rfl (Nat.le_of_ble_eq_true rfl) d_Desk_power_1 rfl (fun Sx rx hx => ?_)
  obtain ⟨hxs, hx⟩ := hx
  replace hxs := hxs.symm
  subst hxs
  rcases hx with ⟨rfl, g1⟩ | ⟨rfl, g1⟩
  rotate_left
  · refine r_if_eqN X d_Desk_power_4 (tgt := 18) (by decide) (by omega) (fun _ => ?_) (fun hc => absurd rfl hc)
    exact hbad (fun h => g1 h.1)
  refine r_if_eqN X d_Desk_power_4 (tgt := 18) (by decide) (by omega) (fun hc => absurd hc (by decide)) (fun _ => ?_)
  refine r_iload_n X d_Desk_power_7 (by rfl) ?_
  refine r_cSi X ls_Desk_43 c_isResidue (by decide) rfl (Nat.le_of_ble_eq_true rfl) d_Desk_power_8 rfl (fun Sx rx hx => ?_)
  obtain ⟨hxs, hx⟩ := hx
  replace hxs := hxs.symm
  subst hxs
  rcases hx with ⟨rfl, g2⟩ | ⟨rfl, g2⟩
  rotate_left
  · refine r_if_eqN X d_Desk_power_11 (tgt := 18) (by decide) (by omega) (fun _ => ?_) (fun hc => absurd rfl hc)
    exact hbad (fun h => g2 h.2.1)
  refine r_if_eqN X d_Desk_power_11 (tgt := 18) (by decide) (by omega) (fun hc => absurd hc (by decide)) (fun _ => ?_)
  refine r_iload_n X d_Desk_power_14 (by rfl) ?_
  refine r_if_ne X d_Desk_power_15 (tgt := 21) (by decide) (fun g3 => ?_) (fun g3 => hbad (fun h => h.2.2 g3))
  obtain ⟨k, hk, rfl⟩ := g1
  obtain ⟨x, hx, rfl⟩ := g2
  have hx0 : 0 < x := by
    rcases Nat.eq_zero_or_pos x with h | h
    · exact absurd (by rw [h]; exact nI_0) g3
    · exact h
  refine r_aload_n X d_Desk_power_21 (by rfl) ?_
  refine r_get X lf_Desk_18 d_Desk_power_22 (by assumption) (by rfl) ?_
  refine r_cVv X lv_Desk_46 (c_tclear hres) (by assumption) (by decide) rfl (Nat.le_of_ble_eq_true rfl) d_Desk_power_25 rfl (fun S1 h1 => ?_)
  obtain ⟨h1, ho1⟩ := h1
  refine r_aload_n X d_Desk_power_28 (by rfl) ?_
  refine r_get X lf_Desk_18 d_Desk_power_29 (by assumption) (by rfl) ?_
  refine r_iload_n X d_Desk_power_32 (by rfl) ?_
  refine r_put X lp_Desk_63 d_Desk_power_33 (by assumption) (by rfl) (Nat.le_of_ble_eq_true rfl) ?_
  refine r_aload_n X d_Desk_power_36 (by rfl) ?_
  refine r_get X lf_Desk_18 d_Desk_power_37 (by assumption) (by rfl) ?_
  refine r_get X lf_Desk_49 d_Desk_power_40 (by assumption) (by rfl) ?_
  refine r_iconst X (x := (nI 0)) d_Desk_power_43 (by decide) ?_
  refine r_iconst X (x := (nI 1)) d_Desk_power_44 (by decide) ?_
  have ho4 : Out S1 (fdS S1 (B + 34) (nI x)) (B + 34) 1 := Out.fd (by omega) (by omega)
  have e4 : (fdS S1 (B + 34) (nI x)).2 (B + 34) = nI x := fdS_2 _ _ _
  revert ho4 e4
  generalize fdS S1 (B + 34) (nI x) = S4
  intro ho4 e4
  refine r_cVv X lv_Desk_53 (c_setLinear (a := 0) (b := 1) hres.2.1 (by decide) (by decide)) (by assumption) (by decide) rfl (Nat.le_of_ble_eq_true rfl) d_Desk_power_45 rfl (fun S2 h2 => ?_)
  obtain ⟨h2, ho2⟩ := h2
  have ht2 : tIs S2 (B + 34) 64 (lin 0 1) (fun _ => 0) x := ⟨h2, by rw [ho2.a1 (by omega), ho4.a1 (by omega)]; exact h1.2.1, by rw [ho2.a2 (by omega)]; exact e4⟩
  have hx2 : exD B S S2 := ((ho1.ex (fun a h1 h2 => by omega)).trans (ho4.ex (fun a h1 h2 => by omega))).trans (ho2.ex (fun a h1 h2 => by omega))
  have hV2 : Rep S2 B V := ((hV.ex (ho1.ex (P := fun a => B + 34 ≤ a) (fun a h1 h2 => h1)) (fun a h1 h2 => by omega)).ex (ho4.ex (P := fun a => B + 34 ≤ a) (fun a h1 h2 => by omega)) (fun a h1 h2 => by omega)).ex (ho2.ex (P := fun a => B + 34 ≤ a) (fun a h1 h2 => by omega)) (fun a h1 h2 => by omega)
  refine r_aload_n X d_Desk_power_48 (by rfl) ?_
  refine r_iload_n X d_Desk_power_49 (by rfl) ?_
  refine r_cVi X lv_Desk_59 (c_keep (k := k) hd0 hk hV2 (lin_ok (by decide) (by decide) (by decide)) zeroE_ok ht2) (by assumption) (by decide) rfl (Nat.le_of_ble_eq_true rfl) d_Desk_power_50 rfl (fun S3 r h3 => ?_)
  obtain ⟨V', h3, hV3, hx3⟩ := h3
  exact hR _ _ _ _ d_Desk_power_53 rfl ⟨_, rfl, V', Or.inr ⟨k, x, hk, hx0, hx, rfl, rfl, h3⟩, hV3, hx2.trans hx3⟩
def O_pole (V : Vt) (s b e : Int32) (r : Int32) (V' : Vt) : Prop := (¬ (sl s ∧ sl b ∧ px3 e) ∧ r = -9 ∧ V' = V) ∨ ∃ k x y, k < 8 ∧ x < 8 ∧ 1 ≤ y ∧ y ≤ 3 ∧ s = nI k ∧ b = nI x ∧ e = nI y ∧ Kp (lin 0 1) (va_up (fun _ => 0) x y) 1 V k r V'
set_option maxHeartbeats 4000000 in
set_option maxRecDepth 100000 in
theorem c_pole {B : Nat} {s c b : Int32} {V : Vt} (hd : isD G cT B) (hV : Rep S B V) : CT (mkE l D cI cT) G y_Desk_pole b_Desk_pole 4 (some .int) 6 [.ref B, .int s, .int c, .int b] S (Pi (fun S' r => ∃ V', O_pole V s c b r V' ∧ Rep S' B V' ∧ exD B S S')) := by
  have hd0 := hd
  obtain ⟨hB, hA, hsl, hres, hrem, hC, hSp⟩ := hd
  have hrT := hres.1
  have hrP := hres.2.1.1
  have hrE := hres.2.2
  refine mk_i (by decide) (eok l D cI cT) (by simp [Value.category]) (Nat.le_of_ble_eq_true rfl) (fun J X hR => ?_)
  show J S 0 [some (.ref B), some (.int s), some (.int c), some (.int b)] []
  have hbad : ¬ (sl s ∧ sl c ∧ px3 b) → J S 21 [some (.ref B), some (.int s), some (.int c), some (.int b)] [] := by
    intro h
    refine r_bipush X (x := (-9)) d_Desk_pole_21 (by decide) ?_
    exact hR _ _ _ _ d_Desk_pole_23 rfl ⟨_, rfl, V, Or.inl ⟨h, rfl, rfl⟩, hV, Ex.rf _ _⟩
  refine r_iload_n X d_Desk_pole_0 (by rfl) ?_
  refine r_cSi X ls_Desk_39 c_isSlot (by decide) rfl (Nat.le_of_ble_eq_true rfl) d_Desk_pole_1 rfl (fun Sx rx hx => ?_)
  obtain ⟨hxs, hx⟩ := hx
  replace hxs := hxs.symm
  subst hxs
  rcases hx with ⟨rfl, g1⟩ | ⟨rfl, g1⟩
  rotate_left
  · refine r_if_eqN X d_Desk_pole_4 (tgt := 21) (by decide) (by omega) (fun _ => ?_) (fun hc => absurd rfl hc)
    exact hbad (fun h => g1 h.1)
  refine r_if_eqN X d_Desk_pole_4 (tgt := 21) (by decide) (by omega) (fun hc => absurd hc (by decide)) (fun _ => ?_)
  refine r_iload_n X d_Desk_pole_7 (by rfl) ?_
  refine r_cSi X ls_Desk_67 c_isPole (by decide) rfl (Nat.le_of_ble_eq_true rfl) d_Desk_pole_8 rfl (fun Sx rx hx => ?_)
  obtain ⟨hxs, hx⟩ := hx
  replace hxs := hxs.symm
  subst hxs
  rcases hx with ⟨rfl, g2⟩ | ⟨rfl, g2⟩
  rotate_left
  · refine r_if_eqN X d_Desk_pole_11 (tgt := 21) (by decide) (by omega) (fun _ => ?_) (fun hc => absurd rfl hc)
    exact hbad (fun h => g2 h.2.1)
  refine r_if_eqN X d_Desk_pole_11 (tgt := 21) (by decide) (by omega) (fun hc => absurd hc (by decide)) (fun _ => ?_)
  refine r_iload_n X d_Desk_pole_14 (by rfl) ?_
  refine r_cSi X ls_Desk_70 c_isPosExp (by decide) rfl (Nat.le_of_ble_eq_true rfl) d_Desk_pole_15 rfl (fun Sx rx hx => ?_)
  obtain ⟨hxs, hx⟩ := hx
  replace hxs := hxs.symm
  subst hxs
  rcases hx with ⟨rfl, g3⟩ | ⟨rfl, g3⟩
  rotate_left
  · refine r_if_neN X d_Desk_pole_18 (tgt := 24) (by decide) (by omega) (fun hc => absurd rfl hc) (fun _ => ?_)
    exact hbad (fun h => g3 h.2.2)
  refine r_if_neN X d_Desk_pole_18 (tgt := 24) (by decide) (by omega) (fun _ => ?_) (fun hc => absurd hc (by decide))
  obtain ⟨k, hk, rfl⟩ := g1
  obtain ⟨x, hx, rfl⟩ := g2
  obtain ⟨y, hy1, hy3, rfl⟩ := g3
  refine r_aload_n X d_Desk_pole_24 (by rfl) ?_
  refine r_get X lf_Desk_18 d_Desk_pole_25 (by assumption) (by rfl) ?_
  refine r_cVv X lv_Desk_46 (c_tclear hres) (by assumption) (by decide) rfl (Nat.le_of_ble_eq_true rfl) d_Desk_pole_28 rfl (fun S1 h1 => ?_)
  obtain ⟨h1, ho1⟩ := h1
  refine r_aload_n X d_Desk_pole_31 (by rfl) ?_
  refine r_get X lf_Desk_18 d_Desk_pole_32 (by assumption) (by rfl) ?_
  refine r_get X lf_Desk_49 d_Desk_pole_35 (by assumption) (by rfl) ?_
  refine r_iconst X (x := (nI 0)) d_Desk_pole_38 (by decide) ?_
  refine r_iconst X (x := (nI 1)) d_Desk_pole_39 (by decide) ?_
  refine r_cVv X lv_Desk_53 (c_setLinear (a := 0) (b := 1) hres.2.1 (by decide) (by decide)) (by assumption) (by decide) rfl (Nat.le_of_ble_eq_true rfl) d_Desk_pole_40 rfl (fun S2 h2 => ?_)
  obtain ⟨h2, ho2⟩ := h2
  have e2 : S2.1 (B + 34 + 3) = fun _ => 0 := by rw [ho2.a1 (by omega)]; exact h1.2.1
  refine r_aload_n X d_Desk_pole_43 (by rfl) ?_
  refine r_get X lf_Desk_18 d_Desk_pole_44 (by assumption) (by rfl) ?_
  refine r_get X lf_Desk_73 d_Desk_pole_47 (by assumption) (by rfl) ?_
  refine r_iload_n X d_Desk_pole_50 (by rfl) ?_
  refine r_iload_n X d_Desk_pole_51 (by rfl) ?_
  refine r_iast X d_Desk_pole_52 (by assumption) (by omega) (by omega) ?_
  refine r_aload_n X d_Desk_pole_53 (by rfl) ?_
  refine r_iload_n X d_Desk_pole_54 (by rfl) ?_
  have ho4 : Out S2 (arS S2 (B + 34 + 3) (va_up (S2.1 (B + 34 + 3)) x y)) (B + 34 + 3) 1 := Out.ar (by omega) (by omega)
  have ht2 : tIs (arS S2 (B + 34 + 3) (va_up (S2.1 (B + 34 + 3)) x y)) (B + 34) 64 (lin 0 1) (va_up (fun _ => 0) x y) 1 := ⟨h2.out ho4 (by omega), by rw [arS_1, e2], by rw [arS_2, ho2.a2 (by omega)]; exact h1.2.2⟩
  revert ho4 ht2
  generalize arS S2 (B + 34 + 3) (va_up (S2.1 (B + 34 + 3)) x y) = S4
  intro ho4 ht2
  have hx2 : exD B S S4 := ((ho1.ex (fun a h1 h2 => by omega)).trans (ho2.ex (fun a h1 h2 => by omega))).trans (ho4.ex (fun a h1 h2 => by omega))
  have hV2 : Rep S4 B V := ((hV.ex (ho1.ex (P := fun a => B + 34 ≤ a) (fun a h1 h2 => h1)) (fun a h1 h2 => by omega)).ex (ho2.ex (P := fun a => B + 34 ≤ a) (fun a h1 h2 => by omega)) (fun a h1 h2 => by omega)).ex (ho4.ex (P := fun a => B + 34 ≤ a) (fun a h1 h2 => by omega)) (fun a h1 h2 => by omega)
  refine r_cVi X lv_Desk_59 (c_keep (k := k) hd0 hk hV2 (lin_ok (by decide) (by decide) (by decide)) (zeroE_ok.up (by omega) (by omega)) ht2) (by assumption) (by decide) rfl (Nat.le_of_ble_eq_true rfl) d_Desk_pole_55 rfl (fun S3 r h3 => ?_)
  obtain ⟨V', h3, hV3, hx3⟩ := h3
  exact hR _ _ _ _ d_Desk_pole_58 rfl ⟨_, rfl, V', Or.inr ⟨k, x, y, hk, hx, hy1, hy3, rfl, rfl, rfl, h3⟩, hV3, hx2.trans hx3⟩
def addN (T U : (Nat → Nat) × ((Nat → Nat) × Nat)) : Nat → Nat := cmb 1 T.1 T.2.1 U.1 U.2.1
def O_add (V : Vt) (d a b : Int32) (r : Int32) (V' : Vt) : Prop := (¬ (sl d ∧ sl a ∧ sl b) ∧ r = -9 ∧ V' = V) ∨ ∃ k x y, k < 8 ∧ x < 8 ∧ y < 8 ∧ d = nI k ∧ a = nI x ∧ b = nI y ∧ ((0 < tp (V x).1 32 ∧ 0 < tp (V y).1 32 ∧ (V x).2.2 ≠ (V y).2.2 ∧ r = -8 ∧ V' = V) ∨ (¬ (0 < tp (V x).1 32 ∧ 0 < tp (V y).1 32 ∧ (V x).2.2 ≠ (V y).2.2) ∧ Kp (nrN 64 (addN (V x) (V y)) (mxE (V x).2.1 (V y).2.1)) (nrE 64 (addN (V x) (V y)) (mxE (V x).2.1 (V y).2.1)) (nrZ 64 (addN (V x) (V y)) (if tp (V x).1 32 = 0 then (V y).2.2 else (V x).2.2)) V k r V'))
set_option maxHeartbeats 4000000 in
set_option maxRecDepth 100000 in
theorem c_add {B : Nat} {d a b : Int32} {V : Vt} (hd : isD G cT B) (hV : Rep S B V) (hw : wfV V) : CT (mkE l D cI cT) G y_Desk_add b_Desk_add 4 (some .int) 6 [.ref B, .int d, .int a, .int b] S (Pi (fun S' r => ∃ V', O_add V d a b r V' ∧ Rep S' B V' ∧ exD B S S')) := by
  have hd0 := hd
  obtain ⟨hB, hA, hsl, hres, hrem, hC, hSp⟩ := hd
  have hCC := hC.1
  have hrT := hres.1
  refine mk_i (by decide) (eok l D cI cT) (by simp [Value.category]) (Nat.le_of_ble_eq_true rfl) (fun J X hR => ?_)
  show J S 0 [some (.ref B), some (.int d), some (.int a), some (.int b)] []
  have hbad : ¬ (sl d ∧ sl a ∧ sl b) → J S 21 [some (.ref B), some (.int d), some (.int a), some (.int b)] [] := by
    intro h
    refine r_bipush X (x := (-9)) d_Desk_add_21 (by decide) ?_
    exact hR _ _ _ _ d_Desk_add_23 rfl ⟨_, rfl, V, Or.inl ⟨h, rfl, rfl⟩, hV, Ex.rf _ _⟩
  refine r_iload_n X d_Desk_add_0 (by rfl) ?_
  refine r_cSi X ls_Desk_39 c_isSlot (by decide) rfl (Nat.le_of_ble_eq_true rfl) d_Desk_add_1 rfl (fun Sx rx hx => ?_)
  obtain ⟨hxs, hx⟩ := hx
  replace hxs := hxs.symm
  subst hxs
  rcases hx with ⟨rfl, g1⟩ | ⟨rfl, g1⟩
  rotate_left
  · refine r_if_eqN X d_Desk_add_4 (tgt := 21) (by decide) (by omega) (fun _ => ?_) (fun hc => absurd rfl hc)
    exact hbad (fun h => g1 h.1)
  refine r_if_eqN X d_Desk_add_4 (tgt := 21) (by decide) (by omega) (fun hc => absurd hc (by decide)) (fun _ => ?_)
  refine r_iload_n X d_Desk_add_7 (by rfl) ?_
  refine r_cSi X ls_Desk_39 c_isSlot (by decide) rfl (Nat.le_of_ble_eq_true rfl) d_Desk_add_8 rfl (fun Sx rx hx => ?_)
  obtain ⟨hxs, hx⟩ := hx
  replace hxs := hxs.symm
  subst hxs
  rcases hx with ⟨rfl, g2⟩ | ⟨rfl, g2⟩
  rotate_left
  · refine r_if_eqN X d_Desk_add_11 (tgt := 21) (by decide) (by omega) (fun _ => ?_) (fun hc => absurd rfl hc)
    exact hbad (fun h => g2 h.2.1)
  refine r_if_eqN X d_Desk_add_11 (tgt := 21) (by decide) (by omega) (fun hc => absurd hc (by decide)) (fun _ => ?_)
  refine r_iload_n X d_Desk_add_14 (by rfl) ?_
  refine r_cSi X ls_Desk_39 c_isSlot (by decide) rfl (Nat.le_of_ble_eq_true rfl) d_Desk_add_15 rfl (fun Sx rx hx => ?_)
  obtain ⟨hxs, hx⟩ := hx
  replace hxs := hxs.symm
  subst hxs
  rcases hx with ⟨rfl, g3⟩ | ⟨rfl, g3⟩
  rotate_left
  · refine r_if_neN X d_Desk_add_18 (tgt := 24) (by decide) (by omega) (fun hc => absurd rfl hc) (fun _ => ?_)
    exact hbad (fun h => g3 h.2.2)
  refine r_if_neN X d_Desk_add_18 (tgt := 24) (by decide) (by omega) (fun _ => ?_) (fun hc => absurd hc (by decide))
  obtain ⟨k, hk, rfl⟩ := g1
  obtain ⟨x, hx, rfl⟩ := g2
  obtain ⟨y, hy, rfl⟩ := g3
  have hxT := (hsl x hx).1
  have hyT := (hsl y hy).1
  have wx := hw x hx
  have wy := hw y hy
  have zx := wx.2.2.2.2
  have zy := wy.2.2.2.2
  have main : ¬ (0 < tp (V x).1 32 ∧ 0 < tp (V y).1 32 ∧ (V x).2.2 ≠ (V y).2.2) → J S 72 [some (.ref B), some (.int (nI k)), some (.int (nI x)), some (.int (nI y))] [] := by
    intro hm
    refine r_aload_n X d_Desk_add_72 (by rfl) ?_
    refine r_get X lf_Desk_28 d_Desk_add_73 (by assumption) (by rfl) ?_
    refine r_aload_n X d_Desk_add_76 (by rfl) ?_
    refine r_get X lf_Desk_18 d_Desk_add_77 (by assumption) (by rfl) ?_
    refine r_aload_n X d_Desk_add_80 (by rfl) ?_
    refine r_get X lf_Desk_11 d_Desk_add_81 (by assumption) (by rfl) ?_
    refine r_iload_n X d_Desk_add_84 (by rfl) ?_
    refine r_aald X d_Desk_add_85 (by assumption) rfl (by omega) (by omega) (slf_at (by omega)) ?_
    refine r_aload_n X d_Desk_add_86 (by rfl) ?_
    refine r_get X lf_Desk_11 d_Desk_add_87 (by assumption) (by rfl) ?_
    refine r_iload_n X d_Desk_add_90 (by rfl) ?_
    refine r_aald X d_Desk_add_91 (by assumption) rfl (by omega) (by omega) (slf_at (by omega)) ?_
    refine r_iconst X (x := (nI 1)) d_Desk_add_92 (by decide) ?_
    refine r_cVv X lv_Desk_81 (c_combine (x := 1) hC hres (hsl x hx) (hsl y hy) (by omega) (by omega) (by omega) (by omega) (by omega) wx.1 wy.1 wx.e wy.e (by decide) (hV x hx) (hV y hy)) (by assumption) (by decide) rfl (Nat.le_of_ble_eq_true rfl) d_Desk_add_93 rfl (fun S2 h2 => ?_)
    obtain ⟨h2, hx2⟩ := h2
    have hok := nrN_ok (ads_ok 64 1 (wd 64 (fun i => max ((V x).2.1 i) ((V y).2.1 i) - (V x).2.1 i) 9 (cut 64 (V x).1)) (wd 64 (fun i => max ((V x).2.1 i) ((V y).2.1 i) - (V y).2.1 i) 9 (cut 64 (V y).1))) (mxE_ok wx.e wy.e)
    refine r_aload_n X d_Desk_add_96 (by rfl) ?_
    refine r_iload_n X d_Desk_add_97 (by rfl) ?_
    refine r_cVi X lv_Desk_59 (c_keep (k := k) hd0 hk (hV.ex hx2 (fun a h1 h2 => by omega)) hok.1 hok.2 h2) (by assumption) (by decide) rfl (Nat.le_of_ble_eq_true rfl) d_Desk_add_98 rfl (fun S3 r h3 => ?_)
    obtain ⟨V', h3, hV3, hx3⟩ := h3
    exact hR _ _ _ _ d_Desk_add_101 rfl ⟨_, rfl, V', Or.inr ⟨k, x, y, hk, hx, hy, rfl, rfl, rfl, Or.inr ⟨hm, h3⟩⟩, hV3, (hx2.mono (fun a h => by omega)).trans hx3⟩
  refine r_aload_n X d_Desk_add_24 (by rfl) ?_
  refine r_get X lf_Desk_11 d_Desk_add_25 (by assumption) (by rfl) ?_
  refine r_iload_n X d_Desk_add_28 (by rfl) ?_
  refine r_aald X d_Desk_add_29 (by assumption) rfl (by omega) (by omega) (slf_at (by omega)) ?_
  refine r_cVi X lv_Desk_77 (c_isZero (hsl x hx) (hV x hx)) (by assumption) (by decide) rfl (Nat.le_of_ble_eq_true rfl) d_Desk_add_30 rfl (fun S1 r h1 => ?_)
  obtain ⟨hxs, h1⟩ := h1
  replace hxs := hxs.symm
  subst hxs
  obtain ⟨rfl, h1⟩ | ⟨rfl, h1⟩ := h1
  · refine r_if_neN X d_Desk_add_33 (tgt := 72) (by decide) (by omega) (fun hc => ?_) (fun hc => ?_)
    · exact main (fun h => by omega)
    · omega
  · refine r_if_neN X d_Desk_add_33 (tgt := 72) (by decide) (by omega) (fun hc => ?_) (fun hc => ?_)
    · omega
    · refine r_aload_n X d_Desk_add_36 (by rfl) ?_
      refine r_get X lf_Desk_11 d_Desk_add_37 (by assumption) (by rfl) ?_
      refine r_iload_n X d_Desk_add_40 (by rfl) ?_
      refine r_aald X d_Desk_add_41 (by assumption) rfl (by omega) (by omega) (slf_at (by omega)) ?_
      refine r_cVi X lv_Desk_77 (c_isZero (hsl y hy) (hV y hy)) (by assumption) (by decide) rfl (Nat.le_of_ble_eq_true rfl) d_Desk_add_42 rfl (fun S1 r h2 => ?_)
      obtain ⟨hxs, h2⟩ := h2
      replace hxs := hxs.symm
      subst hxs
      obtain ⟨rfl, h2⟩ | ⟨rfl, h2⟩ := h2
      · refine r_if_neN X d_Desk_add_45 (tgt := 72) (by decide) (by omega) (fun hc => ?_) (fun hc => ?_)
        · exact main (fun h => by omega)
        · omega
      · refine r_if_neN X d_Desk_add_45 (tgt := 72) (by decide) (by omega) (fun hc => ?_) (fun hc => ?_)
        · omega
        · refine r_aload_n X d_Desk_add_48 (by rfl) ?_
          refine r_get X lf_Desk_11 d_Desk_add_49 (by assumption) (by rfl) ?_
          refine r_iload_n X d_Desk_add_52 (by rfl) ?_
          refine r_aald X d_Desk_add_53 (by assumption) rfl (by omega) (by omega) (slf_at (by omega)) ?_
          refine r_get X lf_Desk_63 d_Desk_add_54 (by assumption) (by rfl) ?_
          rw [(hV x hx).2.2]
          refine r_aload_n X d_Desk_add_57 (by rfl) ?_
          refine r_get X lf_Desk_11 d_Desk_add_58 (by assumption) (by rfl) ?_
          refine r_iload_n X d_Desk_add_61 (by rfl) ?_
          refine r_aald X d_Desk_add_62 (by assumption) rfl (by omega) (by omega) (slf_at (by omega)) ?_
          refine r_get X lf_Desk_63 d_Desk_add_63 (by assumption) (by rfl) ?_
          rw [(hV y hy).2.2]
          refine r_icmp_eqN X d_Desk_add_66 (tgt := 72) (by decide) (by omega) (by omega) (fun hc => ?_) (fun hc => ?_)
          · exact main (fun h => h.2.2 hc)
          · refine r_bipush X (x := (-8)) d_Desk_add_69 (by decide) ?_
            exact hR _ _ _ _ d_Desk_add_71 rfl ⟨_, rfl, V, Or.inr ⟨k, x, y, hk, hx, hy, rfl, rfl, rfl, Or.inl ⟨h1, h2, hc, rfl, rfl⟩⟩, hV, Ex.rf _ _⟩
def mulN (T U : (Nat → Nat) × ((Nat → Nat) × Nat)) : Nat → Nat := prd 64 32 T.1 U.1
def mulE (T U : (Nat → Nat) × ((Nat → Nat) × Nat)) : Nat → Nat := fun i => T.2.1 i + U.2.1 i
def O_mul (V : Vt) (d a b : Int32) (r : Int32) (V' : Vt) : Prop := (¬ (sl d ∧ sl a ∧ sl b) ∧ r = -9 ∧ V' = V) ∨ ∃ k x y, k < 8 ∧ x < 8 ∧ y < 8 ∧ d = nI k ∧ a = nI x ∧ b = nI y ∧ Kp (nrN 64 (mulN (V x) (V y)) (mulE (V x) (V y))) (nrE 64 (mulN (V x) (V y)) (mulE (V x) (V y))) (nrZ 64 (mulN (V x) (V y)) ((V x).2.2 * (V y).2.2 % 10007)) V k r V'
set_option maxHeartbeats 4000000 in
set_option maxRecDepth 100000 in
theorem c_multiply {B : Nat} {d a b : Int32} {V : Vt} (hd : isD G cT B) (hV : Rep S B V) (hw : wfV V) : CT (mkE l D cI cT) G y_Desk_multiply b_Desk_multiply 4 (some .int) 6 [.ref B, .int d, .int a, .int b] S (Pi (fun S' r => ∃ V', O_mul V d a b r V' ∧ Rep S' B V' ∧ exD B S S')) := by
  have hd0 := hd
  obtain ⟨hB, hA, hsl, hres, hrem, hC, hSp⟩ := hd
  have hrT := hres.1
  refine mk_i (by decide) (eok l D cI cT) (by simp [Value.category]) (Nat.le_of_ble_eq_true rfl) (fun J X hR => ?_)
  show J S 0 [some (.ref B), some (.int d), some (.int a), some (.int b)] []
  have hbad : ¬ (sl d ∧ sl a ∧ sl b) → J S 21 [some (.ref B), some (.int d), some (.int a), some (.int b)] [] := by
    intro h
    refine r_bipush X (x := (-9)) d_Desk_multiply_21 (by decide) ?_
    exact hR _ _ _ _ d_Desk_multiply_23 rfl ⟨_, rfl, V, Or.inl ⟨h, rfl, rfl⟩, hV, Ex.rf _ _⟩
  refine r_iload_n X d_Desk_multiply_0 (by rfl) ?_
  refine r_cSi X ls_Desk_39 c_isSlot (by decide) rfl (Nat.le_of_ble_eq_true rfl) d_Desk_multiply_1 rfl (fun Sx rx hx => ?_)
  obtain ⟨hxs, hx⟩ := hx
  replace hxs := hxs.symm
  subst hxs
  rcases hx with ⟨rfl, g1⟩ | ⟨rfl, g1⟩
  rotate_left
  · refine r_if_eqN X d_Desk_multiply_4 (tgt := 21) (by decide) (by omega) (fun _ => ?_) (fun hc => absurd rfl hc)
    exact hbad (fun h => g1 h.1)
  refine r_if_eqN X d_Desk_multiply_4 (tgt := 21) (by decide) (by omega) (fun hc => absurd hc (by decide)) (fun _ => ?_)
  refine r_iload_n X d_Desk_multiply_7 (by rfl) ?_
  refine r_cSi X ls_Desk_39 c_isSlot (by decide) rfl (Nat.le_of_ble_eq_true rfl) d_Desk_multiply_8 rfl (fun Sx rx hx => ?_)
  obtain ⟨hxs, hx⟩ := hx
  replace hxs := hxs.symm
  subst hxs
  rcases hx with ⟨rfl, g2⟩ | ⟨rfl, g2⟩
  rotate_left
  · refine r_if_eqN X d_Desk_multiply_11 (tgt := 21) (by decide) (by omega) (fun _ => ?_) (fun hc => absurd rfl hc)
    exact hbad (fun h => g2 h.2.1)
  refine r_if_eqN X d_Desk_multiply_11 (tgt := 21) (by decide) (by omega) (fun hc => absurd hc (by decide)) (fun _ => ?_)
  refine r_iload_n X d_Desk_multiply_14 (by rfl) ?_
  refine r_cSi X ls_Desk_39 c_isSlot (by decide) rfl (Nat.le_of_ble_eq_true rfl) d_Desk_multiply_15 rfl (fun Sx rx hx => ?_)
  obtain ⟨hxs, hx⟩ := hx
  replace hxs := hxs.symm
  subst hxs
  rcases hx with ⟨rfl, g3⟩ | ⟨rfl, g3⟩
  rotate_left
  · refine r_if_neN X d_Desk_multiply_18 (tgt := 24) (by decide) (by omega) (fun hc => absurd rfl hc) (fun _ => ?_)
    exact hbad (fun h => g3 h.2.2)
  refine r_if_neN X d_Desk_multiply_18 (tgt := 24) (by decide) (by omega) (fun _ => ?_) (fun hc => absurd hc (by decide))
  obtain ⟨k, hk, rfl⟩ := g1
  obtain ⟨x, hx, rfl⟩ := g2
  obtain ⟨y, hy, rfl⟩ := g3
  have wx := hw x hx
  have wy := hw y hy
  refine r_aload_n X d_Desk_multiply_24 (by rfl) ?_
  refine r_get X lf_Desk_18 d_Desk_multiply_25 (by assumption) (by rfl) ?_
  refine r_aload_n X d_Desk_multiply_28 (by rfl) ?_
  refine r_get X lf_Desk_11 d_Desk_multiply_29 (by assumption) (by rfl) ?_
  refine r_iload_n X d_Desk_multiply_32 (by rfl) ?_
  refine r_aald X d_Desk_multiply_33 (by assumption) rfl (by omega) (by omega) (slf_at (by omega)) ?_
  refine r_aload_n X d_Desk_multiply_34 (by rfl) ?_
  refine r_get X lf_Desk_11 d_Desk_multiply_35 (by assumption) (by rfl) ?_
  refine r_iload_n X d_Desk_multiply_38 (by rfl) ?_
  refine r_aald X d_Desk_multiply_39 (by assumption) rfl (by omega) (by omega) (slf_at (by omega)) ?_
  refine r_cVv X lv_Desk_85 (c_tproduct hres (hsl x hx) (hsl y hy) (by omega) (by omega) wx.1 wy.1 wx.e wy.e wx.2.1 wy.2.1 wx.2.2.2.2 wy.2.2.2.2 (hV x hx) (hV y hy)) (by assumption) (by decide) rfl (Nat.le_of_ble_eq_true rfl) d_Desk_multiply_40 rfl (fun S2 h2 => ?_)
  obtain ⟨h2, ho2⟩ := h2
  have hokE : okE (mulE (V x) (V y)) := ⟨fun i => by have := wx.2.1 i; have := wy.2.1 i; show (V x).2.1 i + (V y).2.1 i < 100; omega, fun i hi => by show (V x).2.1 i + (V y).2.1 i = 0; rw [wx.2.2.1 i (by omega), wy.2.2.1 i (by omega)]⟩
  have hok := nrN_ok (prd_ok 64 32 (V x).1 (V y).1) hokE
  have hx2 : Ex (fun a => B + 34 ≤ a ∧ a < B + 38) S S2 := ho2.ex (fun a h1 h2 => by omega)
  refine r_aload_n X d_Desk_multiply_43 (by rfl) ?_
  refine r_iload_n X d_Desk_multiply_44 (by rfl) ?_
  refine r_cVi X lv_Desk_59 (c_keep (k := k) hd0 hk (hV.ex hx2 (fun a h1 h2 => by omega)) hok.1 hok.2 h2) (by assumption) (by decide) rfl (Nat.le_of_ble_eq_true rfl) d_Desk_multiply_45 rfl (fun S3 r h3 => ?_)
  obtain ⟨V', h3, hV3, hx3⟩ := h3
  exact hR _ _ _ _ d_Desk_multiply_48 rfl ⟨_, rfl, V', Or.inr ⟨k, x, y, hk, hx, hy, rfl, rfl, rfl, h3⟩, hV3, (hx2.mono (fun a h => by omega)).trans hx3⟩
def O_shift (V : Vt) (d a : Int32) (r : Int32) (V' : Vt) : Prop := (¬ (sl d ∧ sl a) ∧ r = -9 ∧ V' = V) ∨ ∃ k x, k < 8 ∧ x < 8 ∧ d = nI k ∧ a = nI x ∧ Kp (nxt 64 (V x).2.2 (V x).1) (sh1 (V x).2.1) (V x).2.2 V k r V'
set_option maxHeartbeats 4000000 in
set_option maxRecDepth 100000 in
theorem c_shift {B : Nat} {d a : Int32} {V : Vt} (hd : isD G cT B) (hV : Rep S B V) (hw : wfV V) : CT (mkE l D cI cT) G y_Desk_shift b_Desk_shift 3 (some .int) 6 [.ref B, .int d, .int a] S (Pi (fun S' r => ∃ V', O_shift V d a r V' ∧ Rep S' B V' ∧ exD B S S')) := by
  have hd0 := hd
  obtain ⟨hB, hA, hsl, hres, hrem, hC, hSp⟩ := hd
  have hrT := hres.1
  refine mk_i (by decide) (eok l D cI cT) (by simp [Value.category]) (Nat.le_of_ble_eq_true rfl) (fun J X hR => ?_)
  show J S 0 [some (.ref B), some (.int d), some (.int a)] []
  have hbad : ¬ (sl d ∧ sl a) → J S 14 [some (.ref B), some (.int d), some (.int a)] [] := by
    intro h
    refine r_bipush X (x := (-9)) d_Desk_shift_14 (by decide) ?_
    exact hR _ _ _ _ d_Desk_shift_16 rfl ⟨_, rfl, V, Or.inl ⟨h, rfl, rfl⟩, hV, Ex.rf _ _⟩
  refine r_iload_n X d_Desk_shift_0 (by rfl) ?_
  refine r_cSi X ls_Desk_39 c_isSlot (by decide) rfl (Nat.le_of_ble_eq_true rfl) d_Desk_shift_1 rfl (fun Sx rx hx => ?_)
  obtain ⟨hxs, hx⟩ := hx
  replace hxs := hxs.symm
  subst hxs
  rcases hx with ⟨rfl, g1⟩ | ⟨rfl, g1⟩
  rotate_left
  · refine r_if_eqN X d_Desk_shift_4 (tgt := 14) (by decide) (by omega) (fun _ => ?_) (fun hc => absurd rfl hc)
    exact hbad (fun h => g1 h.1)
  refine r_if_eqN X d_Desk_shift_4 (tgt := 14) (by decide) (by omega) (fun hc => absurd hc (by decide)) (fun _ => ?_)
  refine r_iload_n X d_Desk_shift_7 (by rfl) ?_
  refine r_cSi X ls_Desk_39 c_isSlot (by decide) rfl (Nat.le_of_ble_eq_true rfl) d_Desk_shift_8 rfl (fun Sx rx hx => ?_)
  obtain ⟨hxs, hx⟩ := hx
  replace hxs := hxs.symm
  subst hxs
  rcases hx with ⟨rfl, g2⟩ | ⟨rfl, g2⟩
  rotate_left
  · refine r_if_neN X d_Desk_shift_11 (tgt := 17) (by decide) (by omega) (fun hc => absurd rfl hc) (fun _ => ?_)
    exact hbad (fun h => g2 h.2)
  refine r_if_neN X d_Desk_shift_11 (tgt := 17) (by decide) (by omega) (fun _ => ?_) (fun hc => absurd hc (by decide))
  obtain ⟨k, hk, rfl⟩ := g1
  obtain ⟨x, hx, rfl⟩ := g2
  have wx := hw x hx
  refine r_aload_n X d_Desk_shift_17 (by rfl) ?_
  refine r_get X lf_Desk_18 d_Desk_shift_18 (by assumption) (by rfl) ?_
  refine r_aload_n X d_Desk_shift_21 (by rfl) ?_
  refine r_get X lf_Desk_11 d_Desk_shift_22 (by assumption) (by rfl) ?_
  refine r_iload_n X d_Desk_shift_25 (by rfl) ?_
  refine r_aald X d_Desk_shift_26 (by assumption) rfl (by omega) (by omega) (slf_at (by omega)) ?_
  refine r_cVv X lv_Desk_89 (c_next hres (hsl x hx) (by omega) wx.1 wx.e wx.2.2.2.2 (hV x hx)) (by assumption) (by decide) rfl (Nat.le_of_ble_eq_true rfl) d_Desk_shift_27 rfl (fun S2 h2 => ?_)
  obtain ⟨h2, ho2⟩ := h2
  have hx2 : Ex (fun a => B + 34 ≤ a ∧ a < B + 38) S S2 := ho2.ex (fun a h1 h2 => by omega)
  refine r_aload_n X d_Desk_shift_30 (by rfl) ?_
  refine r_iload_n X d_Desk_shift_31 (by rfl) ?_
  refine r_cVi X lv_Desk_59 (c_keep (k := k) hd0 hk (hV.ex hx2 (fun a h1 h2 => by omega)) (nxt_ok 64 (V x).2.2 wx.1.1) (sh1_ok wx.e) h2) (by assumption) (by decide) rfl (Nat.le_of_ble_eq_true rfl) d_Desk_shift_32 rfl (fun S3 r h3 => ?_)
  obtain ⟨V', h3, hV3, hx3⟩ := h3
  exact hR _ _ _ _ d_Desk_shift_35 rfl ⟨_, rfl, V', Or.inr ⟨k, x, hk, hx, rfl, rfl, h3⟩, hV3, (hx2.mono (fun a h => by omega)).trans hx3⟩
def difN (T : (Nat → Nat) × ((Nat → Nat) × Nat)) : Nat → Nat := cmb 10006 (nxt 64 T.2.2 T.1) (sh1 T.2.1) T.1 T.2.1
def difE (T : (Nat → Nat) × ((Nat → Nat) × Nat)) : Nat → Nat := mxE (sh1 T.2.1) T.2.1
def O_diff (V : Vt) (d a : Int32) (r : Int32) (V' : Vt) : Prop := (¬ (sl d ∧ sl a) ∧ r = -9 ∧ V' = V) ∨ ∃ k x, k < 8 ∧ x < 8 ∧ d = nI k ∧ a = nI x ∧ Kp (nrN 64 (difN (V x)) (difE (V x))) (nrE 64 (difN (V x)) (difE (V x))) (nrZ 64 (difN (V x)) (V x).2.2) V k r V'
set_option maxHeartbeats 4000000 in
set_option maxRecDepth 100000 in
theorem c_difference {B : Nat} {d a : Int32} {V : Vt} (hd : isD G cT B) (hV : Rep S B V) (hw : wfV V) : CT (mkE l D cI cT) G y_Desk_difference b_Desk_difference 3 (some .int) 6 [.ref B, .int d, .int a] S (Pi (fun S' r => ∃ V', O_diff V d a r V' ∧ Rep S' B V' ∧ exD B S S')) := by
  have hd0 := hd
  obtain ⟨hB, hA, hsl, hres, hrem, hC, hSp⟩ := hd
  have hCC := hC.1
  refine mk_i (by decide) (eok l D cI cT) (by simp [Value.category]) (Nat.le_of_ble_eq_true rfl) (fun J X hR => ?_)
  show J S 0 [some (.ref B), some (.int d), some (.int a)] []
  have hbad : ¬ (sl d ∧ sl a) → J S 14 [some (.ref B), some (.int d), some (.int a)] [] := by
    intro h
    refine r_bipush X (x := (-9)) d_Desk_difference_14 (by decide) ?_
    exact hR _ _ _ _ d_Desk_difference_16 rfl ⟨_, rfl, V, Or.inl ⟨h, rfl, rfl⟩, hV, Ex.rf _ _⟩
  refine r_iload_n X d_Desk_difference_0 (by rfl) ?_
  refine r_cSi X ls_Desk_39 c_isSlot (by decide) rfl (Nat.le_of_ble_eq_true rfl) d_Desk_difference_1 rfl (fun Sx rx hx => ?_)
  obtain ⟨hxs, hx⟩ := hx
  replace hxs := hxs.symm
  subst hxs
  rcases hx with ⟨rfl, g1⟩ | ⟨rfl, g1⟩
  rotate_left
  · refine r_if_eqN X d_Desk_difference_4 (tgt := 14) (by decide) (by omega) (fun _ => ?_) (fun hc => absurd rfl hc)
    exact hbad (fun h => g1 h.1)
  refine r_if_eqN X d_Desk_difference_4 (tgt := 14) (by decide) (by omega) (fun hc => absurd hc (by decide)) (fun _ => ?_)
  refine r_iload_n X d_Desk_difference_7 (by rfl) ?_
  refine r_cSi X ls_Desk_39 c_isSlot (by decide) rfl (Nat.le_of_ble_eq_true rfl) d_Desk_difference_8 rfl (fun Sx rx hx => ?_)
  obtain ⟨hxs, hx⟩ := hx
  replace hxs := hxs.symm
  subst hxs
  rcases hx with ⟨rfl, g2⟩ | ⟨rfl, g2⟩
  rotate_left
  · refine r_if_neN X d_Desk_difference_11 (tgt := 17) (by decide) (by omega) (fun hc => absurd rfl hc) (fun _ => ?_)
    exact hbad (fun h => g2 h.2)
  refine r_if_neN X d_Desk_difference_11 (tgt := 17) (by decide) (by omega) (fun _ => ?_) (fun hc => absurd hc (by decide))
  obtain ⟨k, hk, rfl⟩ := g1
  obtain ⟨x, hx, rfl⟩ := g2
  have wx := hw x hx
  refine r_aload_n X d_Desk_difference_17 (by rfl) ?_
  refine r_get X lf_Desk_28 d_Desk_difference_18 (by assumption) (by rfl) ?_
  refine r_aload_n X d_Desk_difference_21 (by rfl) ?_
  refine r_get X lf_Desk_18 d_Desk_difference_22 (by assumption) (by rfl) ?_
  refine r_aload_n X d_Desk_difference_25 (by rfl) ?_
  refine r_get X lf_Desk_11 d_Desk_difference_26 (by assumption) (by rfl) ?_
  refine r_iload_n X d_Desk_difference_29 (by rfl) ?_
  refine r_aald X d_Desk_difference_30 (by assumption) rfl (by omega) (by omega) (slf_at (by omega)) ?_
  refine r_cVv X lv_Desk_93 (c_sub hC hres (hsl x hx) (by omega) (by omega) (by omega) (by omega) (by omega) wx.1 wx.e wx.2.2.2.2 (hV x hx)) (by assumption) (by decide) rfl (Nat.le_of_ble_eq_true rfl) d_Desk_difference_31 rfl (fun S2 h2 => ?_)
  obtain ⟨h2, hx2⟩ := h2
  have hok := nrN_ok (ads_ok 64 10006 (wd 64 (fun i => max (sh1 (V x).2.1 i) ((V x).2.1 i) - sh1 (V x).2.1 i) 9 (cut 64 (nxt 64 (V x).2.2 (V x).1))) (wd 64 (fun i => max (sh1 (V x).2.1 i) ((V x).2.1 i) - (V x).2.1 i) 9 (cut 64 (V x).1))) (mxE_ok (sh1_ok wx.e) wx.e)
  refine r_aload_n X d_Desk_difference_34 (by rfl) ?_
  refine r_iload_n X d_Desk_difference_35 (by rfl) ?_
  refine r_cVi X lv_Desk_59 (c_keep (k := k) hd0 hk (hV.ex hx2 (fun a h1 h2 => by omega)) hok.1 hok.2 h2) (by assumption) (by decide) rfl (Nat.le_of_ble_eq_true rfl) d_Desk_difference_36 rfl (fun S3 r h3 => ?_)
  obtain ⟨V', h3, hV3, hx3⟩ := h3
  exact hR _ _ _ _ d_Desk_difference_39 rfl ⟨_, rfl, V', Or.inr ⟨k, x, hk, hx, rfl, rfl, h3⟩, hV3, (hx2.mono (fun a h => by omega)).trans hx3⟩
end D2
end
section
section D3
variable {l : Launch} {D : va_G} {cI cT : ClassId} {G : Gm} {S : Sg}
theorem va_ok {n j c : Nat} {X : Nat → Nat} (h : okP n X) (hj : j < n) (hc : c < 10007) : okP n (va_up X j c) := by
  refine ⟨fun k => ?_, fun k hk => ?_⟩
  · unfold va_up
    split
    · exact hc
    · exact h.1 k
  · rw [va_up_n (by omega)]
    exact h.2 k hk
theorem swh_gen {z : Nat} : ∀ (i : Nat) {R X : Nat → Nat}, i ≤ 32 → okP 64 X → okP 64 (swh z i R X) := by
  intro i
  induction i with
  | zero => intro R X _ h; exact h
  | succ i ih =>
    intro R X hi h
    exact ih (by omega) (va_ok h (by unfold pj; split <;> omega) (Nat.mod_lt _ (by decide)))
theorem qdv_tp {e N : Nat → Nat} (hN : okP 32 N) : tp (qdv e 8 N) 64 ≤ 32 := by
  rw [show (64 : Nat) = 32 + 32 by rfl, tp_more 32 (qdv_32 (e := e) hN 8).2]
  exact tp_le _ _
theorem swh_ok {z : Nat} {e N : Nat → Nat} (hN : okP 32 N) (_ : 0 < z) (_ : z < 10007) : okP 64 (swh z (tp (qdv e 8 N) 64) (qdv e 8 N) (fun _ => 0)) := swh_gen _ (qdv_tp hN) (zero_ok 64)
abbrev Tt : Type := (Nat → Nat) × ((Nat → Nat) × Nat)
def telT (T : Tt) : Tt := (nrN 64 (spN T.2.2 T.2.1 T.1) (gE (spP T.2.2 T.2.1 T.1)), (nrE 64 (spN T.2.2 T.2.1 T.1) (gE (spP T.2.2 T.2.1 T.1)), nrZ 64 (spN T.2.2 T.2.1 T.1) T.2.2))
def remT (T : Tt) : Tt := (nrN 64 (spR T.2.2 T.2.1 T.1) e30, (nrE 64 (spR T.2.2 T.2.1 T.1) e30, nrZ 64 (spR T.2.2 T.2.1 T.1) T.2.2))
theorem telT_ok {T : Tt} (h : wfT T) : okP 64 (telT T).1 ∧ okE (telT T).2.1 := by
  unfold telT
  dsimp only
  refine nrN_ok ?_ (gE_ok _)
  unfold spN gth
  refine gb_ok (wd_ok ?_ 8) 8
  unfold whl
  exact swh_ok h.1 h.2.2.2.1 h.2.2.2.2
theorem remT_ok (T : Tt) : okP 64 (remT T).1 ∧ okE (remT T).2.1 := by
  unfold remT
  dsimp only
  refine nrN_ok ?_ e30_ok
  unfold spR
  exact rmw_ok _ _
def O_tel (V : Vt) (d r a : Int32) (x : Int32) (V' : Vt) : Prop := (¬ (sl d ∧ sl r ∧ sl a ∧ d ≠ r) ∧ x = -9 ∧ V' = V) ∨ ∃ k j i, k < 8 ∧ j < 8 ∧ i < 8 ∧ k ≠ j ∧ d = nI k ∧ r = nI j ∧ a = nI i ∧ ((ovr 64 (telT (V i)).1 (telT (V i)).2.1 ∧ x = -7 ∧ V' = V) ∨ (¬ ovr 64 (telT (V i)).1 (telT (V i)).2.1 ∧ ((x = nI 1 ∧ tp (remT (V i)).1 64 = 0) ∨ (x = nI 0 ∧ 0 < tp (remT (V i)).1 64)) ∧ V' = va_up (va_up V k (telT (V i))) j (cut 32 (remT (V i)).1, ((remT (V i)).2.1, (remT (V i)).2.2))))
set_option maxHeartbeats 1000000 in
set_option maxRecDepth 100000 in
theorem c_telescope {B : Nat} {d r a : Int32} {V : Vt} (hd : isD G cT B) (hV : Rep S B V) (hw : wfV V) : CT (mkE l D cI cT) G y_Desk_telescope b_Desk_telescope 4 (some .int) 6 [.ref B, .int d, .int r, .int a] S (Pi (fun S' x => ∃ V', O_tel V d r a x V' ∧ Rep S' B V' ∧ exD B S S')) := by
  have hd0 := hd
  obtain ⟨hB, hA, hsl, hres, hrem, hC, hSp⟩ := hd
  have hSS := hSp.1
  have hrT := hres.1
  have hmT := hrem.1
  refine mk_i (by decide) (eok l D cI cT) (by simp [Value.category]) (Nat.le_of_ble_eq_true rfl) (fun J X hR => ?_)
  show J S 0 [some (.ref B), some (.int d), some (.int r), some (.int a)] []
  have hbad : ¬ (sl d ∧ sl r ∧ sl a ∧ d ≠ r) → J S 26 [some (.ref B), some (.int d), some (.int r), some (.int a)] [] := by
    intro h
    refine r_bipush X (x := (-9)) d_Desk_telescope_26 (by decide) ?_
    exact hR _ _ _ _ d_Desk_telescope_28 rfl ⟨_, rfl, V, Or.inl ⟨h, rfl, rfl⟩, hV, Ex.rf _ _⟩
  refine r_iload_n X d_Desk_telescope_0 (by rfl) ?_
  refine r_cSi X ls_Desk_39 c_isSlot (by decide) rfl (Nat.le_of_ble_eq_true rfl) d_Desk_telescope_1 rfl (fun Sx rx hx => ?_)
  obtain ⟨hxs, hx⟩ := hx
  replace hxs := hxs.symm
  subst hxs
  rcases hx with ⟨rfl, g1⟩ | ⟨rfl, g1⟩
  rotate_left
  · refine r_if_eqN X d_Desk_telescope_4 (tgt := 26) (by decide) (by omega) (fun _ => ?_) (fun hc => absurd rfl hc)
    exact hbad (fun h => g1 h.1)
  refine r_if_eqN X d_Desk_telescope_4 (tgt := 26) (by decide) (by omega) (fun hc => absurd hc (by decide)) (fun _ => ?_)
  refine r_iload_n X d_Desk_telescope_7 (by rfl) ?_
  refine r_cSi X ls_Desk_39 c_isSlot (by decide) rfl (Nat.le_of_ble_eq_true rfl) d_Desk_telescope_8 rfl (fun Sx rx hx => ?_)
  obtain ⟨hxs, hx⟩ := hx
  replace hxs := hxs.symm
  subst hxs
  rcases hx with ⟨rfl, g2⟩ | ⟨rfl, g2⟩
  rotate_left
  · refine r_if_eqN X d_Desk_telescope_11 (tgt := 26) (by decide) (by omega) (fun _ => ?_) (fun hc => absurd rfl hc)
    exact hbad (fun h => g2 h.2.1)
  refine r_if_eqN X d_Desk_telescope_11 (tgt := 26) (by decide) (by omega) (fun hc => absurd hc (by decide)) (fun _ => ?_)
  refine r_iload_n X d_Desk_telescope_14 (by rfl) ?_
  refine r_cSi X ls_Desk_39 c_isSlot (by decide) rfl (Nat.le_of_ble_eq_true rfl) d_Desk_telescope_15 rfl (fun Sx rx hx => ?_)
  obtain ⟨hxs, hx⟩ := hx
  replace hxs := hxs.symm
  subst hxs
  rcases hx with ⟨rfl, g3⟩ | ⟨rfl, g3⟩
  rotate_left
  · refine r_if_eqN X d_Desk_telescope_18 (tgt := 26) (by decide) (by omega) (fun _ => ?_) (fun hc => absurd rfl hc)
    exact hbad (fun h => g3 h.2.2.1)
  refine r_if_eqN X d_Desk_telescope_18 (tgt := 26) (by decide) (by omega) (fun hc => absurd hc (by decide)) (fun _ => ?_)
  refine r_iload_n X d_Desk_telescope_21 (by rfl) ?_
  refine r_iload_n X d_Desk_telescope_22 (by rfl) ?_
  refine r_icmp_ne X d_Desk_telescope_23 (tgt := 29) (by decide) (fun g4 => ?_) (fun g4 => hbad (fun h => h.2.2.2 g4))
  obtain ⟨k, hk, rfl⟩ := g1
  obtain ⟨j, hj, rfl⟩ := g2
  obtain ⟨i, hi, rfl⟩ := g3
  have hkj : k ≠ j := fun z => g4 (by rw [z])
  have hkT := (hsl k hk).1
  have hjT := (hsl j hj).1
  have wi := hw i hi
  refine r_aload_n X d_Desk_telescope_29 (by rfl) ?_
  refine r_get X lf_Desk_35 d_Desk_telescope_30 (by assumption) (by rfl) ?_
  refine r_aload_n X d_Desk_telescope_33 (by rfl) ?_
  refine r_get X lf_Desk_11 d_Desk_telescope_34 (by assumption) (by rfl) ?_
  refine r_iload_n X d_Desk_telescope_37 (by rfl) ?_
  refine r_aald X d_Desk_telescope_38 (by assumption) rfl (by omega) (by omega) (slf_at (by omega)) ?_
  refine r_aload_n X d_Desk_telescope_39 (by rfl) ?_
  refine r_get X lf_Desk_18 d_Desk_telescope_40 (by assumption) (by rfl) ?_
  refine r_aload_n X d_Desk_telescope_43 (by rfl) ?_
  refine r_get X lf_Desk_22 d_Desk_telescope_44 (by assumption) (by rfl) ?_
  refine r_cVv X lv_Desk_96 (c_split hSp (hsl i hi) hres hrem (by omega) (by omega) (by omega) wi.1 (by omega) wi.e wi.2.2.2.1 wi.2.2.2.2 (hV i hi)) (by assumption) (by decide) rfl (Nat.le_of_ble_eq_true rfl) d_Desk_telescope_47 rfl (fun S1 h1 => ?_)
  obtain ⟨h1, h1r, hx1⟩ := h1
  have hV1 := hV.ex hx1 (fun a h1 h2 => by omega)
  have okt := telT_ok wi
  have okr := remT_ok (V i)
  have h1 : tIs S1 (B + 34) 64 (telT (V i)).1 (telT (V i)).2.1 (telT (V i)).2.2 := by
    unfold telT
    dsimp only
    exact h1
  have h1r : tIs S1 (B + 38) 64 (remT (V i)).1 (remT (V i)).2.1 (remT (V i)).2.2 := by
    unfold remT
    dsimp only
    exact h1r
  refine r_aload_n X d_Desk_telescope_50 (by rfl) ?_
  refine r_get X lf_Desk_18 d_Desk_telescope_51 (by assumption) (by rfl) ?_
  refine r_cVi X lv_Desk_100 (c_isOver hres okt.2 h1) (by assumption) (by decide) rfl (Nat.le_of_ble_eq_true rfl) d_Desk_telescope_54 rfl (fun S2 x h2 => ?_)
  obtain ⟨rfl, ⟨rfl, h2⟩ | ⟨rfl, h2⟩⟩ := h2
  · refine r_if_eqN X d_Desk_telescope_57 (tgt := 63) (by decide) (by omega) (fun hc => ?_) (fun hc => ?_)
    · omega
    · refine r_bipush X (x := (-7)) d_Desk_telescope_60 (by decide) ?_
      exact hR _ _ _ _ d_Desk_telescope_62 rfl ⟨_, rfl, V, Or.inr ⟨k, j, i, hk, hj, hi, hkj, rfl, rfl, rfl, Or.inl ⟨h2, rfl, rfl⟩⟩, hV1, hx1.mono (fun a h => by omega)⟩
  · refine r_if_eqN X d_Desk_telescope_57 (tgt := 63) (by decide) (by omega) (fun hc => ?_) (fun hc => ?_)
    · refine r_aload_n X d_Desk_telescope_63 (by rfl) ?_
      refine r_get X lf_Desk_11 d_Desk_telescope_64 (by assumption) (by rfl) ?_
      refine r_iload_n X d_Desk_telescope_67 (by rfl) ?_
      refine r_aald X d_Desk_telescope_68 (by assumption) rfl (by omega) (by omega) (slf_at (by omega)) ?_
      refine r_aload_n X d_Desk_telescope_69 (by rfl) ?_
      refine r_get X lf_Desk_18 d_Desk_telescope_70 (by assumption) (by rfl) ?_
      refine r_cVv X lv_Desk_103 (c_tcopy (hsl k hk) hres (by omega) okt.1 okt.2 h1) (by assumption) (by decide) rfl (Nat.le_of_ble_eq_true rfl) d_Desk_telescope_73 rfl (fun S3 h3 => ?_)
      obtain ⟨h3, ho3⟩ := h3
      have h3r := h1r.out ho3 (by omega)
      have hcut : cut 32 (telT (V i)).1 = (telT (V i)).1 := cut_id (fun q hq => by
        refine okt.1.tz ?_
        by_cases h : 32 < tp (telT (V i)).1 64
        · exact absurd (Or.inr (Or.inl h)) h2
        · omega)
      rw [hcut] at h3
      refine r_aload_n X d_Desk_telescope_76 (by rfl) ?_
      refine r_get X lf_Desk_11 d_Desk_telescope_77 (by assumption) (by rfl) ?_
      refine r_iload_n X d_Desk_telescope_80 (by rfl) ?_
      refine r_aald X d_Desk_telescope_81 (by assumption) rfl (by omega) (by omega) (slf_at (by omega)) ?_
      refine r_aload_n X d_Desk_telescope_82 (by rfl) ?_
      refine r_get X lf_Desk_22 d_Desk_telescope_83 (by assumption) (by rfl) ?_
      refine r_cVv X lv_Desk_103 (c_tcopy (hsl j hj) hrem (by omega) okr.1 okr.2 h3r) (by assumption) (by decide) rfl (Nat.le_of_ble_eq_true rfl) d_Desk_telescope_86 rfl (fun S4 h4 => ?_)
      obtain ⟨h4, ho4⟩ := h4
      have h4r := h3r.out ho4 (by omega)
      have hV4 : Rep S4 B (va_up (va_up V k (telT (V i))) j (cut 32 (remT (V i)).1, ((remT (V i)).2.1, (remT (V i)).2.2))) := by
        intro q hq
        by_cases hqj : q = j
        · subst hqj
          rw [va_up_s]
          dsimp only
          exact h4
        · rw [va_up_n hqj]
          by_cases hqk : q = k
          · subst hqk
            rw [va_up_s]
            exact h3.out ho4 (by omega)
          · rw [va_up_n hqk]
            exact ((hV1 q hq).out ho3 (by omega)).out ho4 (by omega)
      have hx4 : exD B S S4 := ((hx1.mono (fun a h => by omega)).trans (ho3.ex (fun a h1 h2 => by omega))).trans (ho4.ex (fun a h1 h2 => by omega))
      refine r_aload_n X d_Desk_telescope_89 (by rfl) ?_
      refine r_get X lf_Desk_22 d_Desk_telescope_90 (by assumption) (by rfl) ?_
      refine r_cVi X lv_Desk_77 (c_isZero hrem h4r) (by assumption) (by decide) rfl (Nat.le_of_ble_eq_true rfl) d_Desk_telescope_93 rfl (fun S5 x h5 => ?_)
      obtain ⟨rfl, ⟨rfl, h5⟩ | ⟨rfl, h5⟩⟩ := h5
      · refine r_if_eqN X d_Desk_telescope_96 (tgt := 103) (by decide) (by omega) (fun hc => ?_) (fun hc => ?_)
        · omega
        · refine r_iconst X (x := (nI 1)) d_Desk_telescope_99 (by decide) ?_
          refine r_goto X d_Desk_telescope_100 (tgt := 104) (by decide) ?_
          exact hR _ _ _ _ d_Desk_telescope_104 rfl ⟨_, rfl, _, Or.inr ⟨k, j, i, hk, hj, hi, hkj, rfl, rfl, rfl, Or.inr ⟨h2, Or.inl ⟨rfl, h5⟩, rfl⟩⟩, hV4, hx4⟩
      · refine r_if_eqN X d_Desk_telescope_96 (tgt := 103) (by decide) (by omega) (fun hc => ?_) (fun hc => ?_)
        · refine r_iconst X (x := (nI 0)) d_Desk_telescope_103 (by decide) ?_
          exact hR _ _ _ _ d_Desk_telescope_104 rfl ⟨_, rfl, _, Or.inr ⟨k, j, i, hk, hj, hi, hkj, rfl, rfl, rfl, Or.inr ⟨h2, Or.inr ⟨rfl, h5⟩, rfl⟩⟩, hV4, hx4⟩
        · omega
    · omega
def chkP (T U : Tt) : Prop := ¬ ovr 64 (nrN 64 (difN T) (difE T)) (nrE 64 (difN T) (difE T)) ∧ nrN 64 (difN T) (difE T) = U.1 ∧ nrE 64 (difN T) (difE T) = U.2.1 ∧ nrZ 64 (difN T) T.2.2 = U.2.2
def O_chk (V : Vt) (d a : Int32) (r : Int32) : Prop := (¬ (sl d ∧ sl a) ∧ r = nI 0) ∨ ∃ k x, k < 8 ∧ x < 8 ∧ d = nI k ∧ a = nI x ∧ ((r = nI 1 ∧ chkP (V k) (V x)) ∨ (r = nI 0 ∧ ¬ chkP (V k) (V x)))
set_option maxHeartbeats 4000000 in
set_option maxRecDepth 100000 in
theorem c_check {B : Nat} {d a : Int32} {V : Vt} (hd : isD G cT B) (hV : Rep S B V) (hw : wfV V) : CT (mkE l D cI cT) G y_Desk_check b_Desk_check 3 (some .boolean) 6 [.ref B, .int d, .int a] S (Pi (fun S' r => O_chk V d a r ∧ Rep S' B V ∧ exD B S S')) := by
  have hd0 := hd
  obtain ⟨hB, hA, hsl, hres, hrem, hC, hSp⟩ := hd
  have hCC := hC.1
  have hrT := hres.1
  refine mk_i (by decide) (eok l D cI cT) (by simp [Value.category]) (Nat.le_of_ble_eq_true rfl) (fun J X hR => ?_)
  show J S 0 [some (.ref B), some (.int d), some (.int a)] []
  have hbad : ¬ (sl d ∧ sl a) → J S 14 [some (.ref B), some (.int d), some (.int a)] [] := by
    intro h
    refine r_iconst X (x := (nI 0)) d_Desk_check_14 (by decide) ?_
    exact hR _ _ _ _ d_Desk_check_15 (by decide) ⟨_, rfl, Or.inl ⟨h, rfl⟩, hV, Ex.rf _ _⟩
  refine r_iload_n X d_Desk_check_0 (by rfl) ?_
  refine r_cSi X ls_Desk_39 c_isSlot (by decide) rfl (Nat.le_of_ble_eq_true rfl) d_Desk_check_1 rfl (fun Sx rx hx => ?_)
  obtain ⟨hxs, hx⟩ := hx
  replace hxs := hxs.symm
  subst hxs
  rcases hx with ⟨rfl, g1⟩ | ⟨rfl, g1⟩
  rotate_left
  · refine r_if_eqN X d_Desk_check_4 (tgt := 14) (by decide) (by omega) (fun _ => ?_) (fun hc => absurd rfl hc)
    exact hbad (fun h => g1 h.1)
  refine r_if_eqN X d_Desk_check_4 (tgt := 14) (by decide) (by omega) (fun hc => absurd hc (by decide)) (fun _ => ?_)
  refine r_iload_n X d_Desk_check_7 (by rfl) ?_
  refine r_cSi X ls_Desk_39 c_isSlot (by decide) rfl (Nat.le_of_ble_eq_true rfl) d_Desk_check_8 rfl (fun Sx rx hx => ?_)
  obtain ⟨hxs, hx⟩ := hx
  replace hxs := hxs.symm
  subst hxs
  rcases hx with ⟨rfl, g2⟩ | ⟨rfl, g2⟩
  rotate_left
  · refine r_if_neN X d_Desk_check_11 (tgt := 16) (by decide) (by omega) (fun hc => absurd rfl hc) (fun _ => ?_)
    exact hbad (fun h => g2 h.2)
  refine r_if_neN X d_Desk_check_11 (tgt := 16) (by decide) (by omega) (fun _ => ?_) (fun hc => absurd hc (by decide))
  obtain ⟨k, hk, rfl⟩ := g1
  obtain ⟨x, hx, rfl⟩ := g2
  have wk := hw k hk
  have wx := hw x hx
  refine r_aload_n X d_Desk_check_16 (by rfl) ?_
  refine r_get X lf_Desk_28 d_Desk_check_17 (by assumption) (by rfl) ?_
  refine r_aload_n X d_Desk_check_20 (by rfl) ?_
  refine r_get X lf_Desk_18 d_Desk_check_21 (by assumption) (by rfl) ?_
  refine r_aload_n X d_Desk_check_24 (by rfl) ?_
  refine r_get X lf_Desk_11 d_Desk_check_25 (by assumption) (by rfl) ?_
  refine r_iload_n X d_Desk_check_28 (by rfl) ?_
  refine r_aald X d_Desk_check_29 (by assumption) rfl (by omega) (by omega) (slf_at (by omega)) ?_
  refine r_cVv X lv_Desk_93 (c_sub hC hres (hsl k hk) (by omega) (by omega) (by omega) (by omega) (by omega) wk.1 wk.e wk.2.2.2.2 (hV k hk)) (by assumption) (by decide) rfl (Nat.le_of_ble_eq_true rfl) d_Desk_check_30 rfl (fun S2 h2 => ?_)
  obtain ⟨h2, hx2⟩ := h2
  have h2 : tIs S2 (B + 34) 64 (nrN 64 (difN (V k)) (difE (V k))) (nrE 64 (difN (V k)) (difE (V k))) (nrZ 64 (difN (V k)) (V k).2.2) := h2
  have hok := nrN_ok (ads_ok 64 10006 (wd 64 (fun i => max (sh1 (V k).2.1 i) ((V k).2.1 i) - sh1 (V k).2.1 i) 9 (cut 64 (nxt 64 (V k).2.2 (V k).1))) (wd 64 (fun i => max (sh1 (V k).2.1 i) ((V k).2.1 i) - (V k).2.1 i) 9 (cut 64 (V k).1))) (mxE_ok (sh1_ok wk.e) wk.e)
  have hok : okP 64 (nrN 64 (difN (V k)) (difE (V k))) ∧ okE (nrE 64 (difN (V k)) (difE (V k))) := hok
  have hV2 := hV.ex hx2 (fun a h1 h2 => by omega)
  have hxx : exD B S S2 := hx2.mono (fun a h => by omega)
  have hz2 : nrZ 64 (difN (V k)) (V k).2.2 < 10007 := by unfold nrZ; split; decide; exact wk.2.2.2.2
  have no : ∀ S3, S3 = S2 → ¬ chkP (V k) (V x) → J S3 63 [some (.ref B), some (.int (nI k)), some (.int (nI x))] [] := by
    intro S3 e h
    subst e
    refine r_iconst X (x := (nI 0)) d_Desk_check_63 (by decide) ?_
    exact hR _ _ _ _ d_Desk_check_64 (by decide) ⟨_, rfl, Or.inr ⟨k, x, hk, hx, rfl, rfl, Or.inr ⟨rfl, h⟩⟩, hV2, hxx⟩
  refine r_aload_n X d_Desk_check_33 (by rfl) ?_
  refine r_get X lf_Desk_18 d_Desk_check_34 (by assumption) (by rfl) ?_
  refine r_cVi X lv_Desk_100 (c_isOver hres hok.2 h2) (by assumption) (by decide) rfl (Nat.le_of_ble_eq_true rfl) d_Desk_check_37 rfl (fun S3 r h3 => ?_)
  obtain ⟨e3, ⟨rfl, h3⟩ | ⟨rfl, h3⟩⟩ := h3
  · refine r_if_neN X d_Desk_check_40 (tgt := 63) (by decide) (by omega) (fun hc => ?_) (fun hc => ?_)
    · exact no S3 e3 (fun h => h.1 h3)
    · omega
  · subst e3
    refine r_if_neN X d_Desk_check_40 (tgt := 63) (by decide) (by omega) (fun hc => ?_) (fun hc => ?_)
    · omega
    · refine r_aload_n X d_Desk_check_43 (by rfl) ?_
      refine r_get X lf_Desk_18 d_Desk_check_44 (by assumption) (by rfl) ?_
      refine r_aload_n X d_Desk_check_47 (by rfl) ?_
      refine r_get X lf_Desk_11 d_Desk_check_48 (by assumption) (by rfl) ?_
      refine r_iload_n X d_Desk_check_51 (by rfl) ?_
      refine r_aald X d_Desk_check_52 (by assumption) rfl (by omega) (by omega) (slf_at (by omega)) ?_
      refine r_cVi X lv_Desk_106 (c_tmatches hres (hsl x hx) hok.1 wx.1 hok.2 wx.e hz2 wx.2.2.2.2 h2 (hV2 x hx)) (by assumption) (by decide) rfl (Nat.le_of_ble_eq_true rfl) d_Desk_check_53 rfl (fun S4 r h4 => ?_)
      obtain ⟨e4, ⟨rfl, h4⟩ | ⟨rfl, h4⟩⟩ := h4
      · subst e4
        refine r_if_eqN X d_Desk_check_56 (tgt := 63) (by decide) (by omega) (fun hc => ?_) (fun hc => ?_)
        · omega
        · refine r_iconst X (x := (nI 1)) d_Desk_check_59 (by decide) ?_
          refine r_goto X d_Desk_check_60 (tgt := 64) (by decide) ?_
          exact hR _ _ _ _ d_Desk_check_64 (by decide) ⟨_, rfl, Or.inr ⟨k, x, hk, hx, rfl, rfl, Or.inl ⟨rfl, h3, h4⟩⟩, hV2, hxx⟩
      · refine r_if_eqN X d_Desk_check_56 (tgt := 63) (by decide) (by omega) (fun hc => ?_) (fun hc => ?_)
        · exact no S4 e4 (fun h => h4 h.2)
        · omega
def O_same (V : Vt) (a b : Int32) (r : Int32) : Prop := (¬ (sl a ∧ sl b) ∧ r = nI 0) ∨ ∃ k x, k < 8 ∧ x < 8 ∧ a = nI k ∧ b = nI x ∧ ((r = nI 1 ∧ (V k).1 = (V x).1 ∧ (V k).2.1 = (V x).2.1 ∧ (V k).2.2 = (V x).2.2) ∨ (r = nI 0 ∧ ¬ ((V k).1 = (V x).1 ∧ (V k).2.1 = (V x).2.1 ∧ (V k).2.2 = (V x).2.2)))
set_option maxHeartbeats 4000000 in
set_option maxRecDepth 100000 in
theorem c_same {B : Nat} {d a : Int32} {V : Vt} (hd : isD G cT B) (hV : Rep S B V) (hw : wfV V) : CT (mkE l D cI cT) G y_Desk_same b_Desk_same 3 (some .boolean) 6 [.ref B, .int d, .int a] S (Pi (fun S' r => O_same V d a r ∧ S' = S)) := by
  have hd0 := hd
  obtain ⟨hB, hA, hsl, hres, hrem, hC, hSp⟩ := hd
  refine mk_i (by decide) (eok l D cI cT) (by simp [Value.category]) (Nat.le_of_ble_eq_true rfl) (fun J X hR => ?_)
  show J S 0 [some (.ref B), some (.int d), some (.int a)] []
  have hbad : ¬ (sl d ∧ sl a) → J S 36 [some (.ref B), some (.int d), some (.int a)] [] := by
    intro h
    refine r_iconst X (x := (nI 0)) d_Desk_same_36 (by decide) ?_
    exact hR _ _ _ _ d_Desk_same_37 (by decide) ⟨_, rfl, Or.inl ⟨h, rfl⟩, rfl⟩
  refine r_iload_n X d_Desk_same_0 (by rfl) ?_
  refine r_cSi X ls_Desk_39 c_isSlot (by decide) rfl (Nat.le_of_ble_eq_true rfl) d_Desk_same_1 rfl (fun Sx rx hx => ?_)
  obtain ⟨hxs, hx⟩ := hx
  replace hxs := hxs.symm
  subst hxs
  rcases hx with ⟨rfl, g1⟩ | ⟨rfl, g1⟩
  rotate_left
  · refine r_if_eqN X d_Desk_same_4 (tgt := 36) (by decide) (by omega) (fun _ => ?_) (fun hc => absurd rfl hc)
    exact hbad (fun h => g1 h.1)
  refine r_if_eqN X d_Desk_same_4 (tgt := 36) (by decide) (by omega) (fun hc => absurd hc (by decide)) (fun _ => ?_)
  refine r_iload_n X d_Desk_same_7 (by rfl) ?_
  refine r_cSi X ls_Desk_39 c_isSlot (by decide) rfl (Nat.le_of_ble_eq_true rfl) d_Desk_same_8 rfl (fun Sx rx hx => ?_)
  obtain ⟨hxs, hx⟩ := hx
  replace hxs := hxs.symm
  subst hxs
  rcases hx with ⟨rfl, g2⟩ | ⟨rfl, g2⟩
  rotate_left
  · refine r_if_eqN X d_Desk_same_11 (tgt := 36) (by decide) (by omega) (fun _ => ?_) (fun hc => absurd rfl hc)
    exact hbad (fun h => g2 h.2)
  refine r_if_eqN X d_Desk_same_11 (tgt := 36) (by decide) (by omega) (fun hc => absurd hc (by decide)) (fun _ => ?_)
  obtain ⟨k, hk, rfl⟩ := g1
  obtain ⟨x, hx, rfl⟩ := g2
  have wk := hw k hk
  have wx := hw x hx
  have hkT := (hsl k hk).1
  refine r_aload_n X d_Desk_same_14 (by rfl) ?_
  refine r_get X lf_Desk_11 d_Desk_same_15 (by assumption) (by rfl) ?_
  refine r_iload_n X d_Desk_same_18 (by rfl) ?_
  refine r_aald X d_Desk_same_19 (by assumption) rfl (by omega) (by omega) (slf_at (by omega)) ?_
  refine r_aload_n X d_Desk_same_20 (by rfl) ?_
  refine r_get X lf_Desk_11 d_Desk_same_21 (by assumption) (by rfl) ?_
  refine r_iload_n X d_Desk_same_24 (by rfl) ?_
  refine r_aald X d_Desk_same_25 (by assumption) rfl (by omega) (by omega) (slf_at (by omega)) ?_
  refine r_cVi X lv_Desk_106 (c_tmatches (hsl k hk) (hsl x hx) wk.1 wx.1 wk.e wx.e wk.2.2.2.2 wx.2.2.2.2 (hV k hk) (hV x hx)) (by assumption) (by decide) rfl (Nat.le_of_ble_eq_true rfl) d_Desk_same_26 rfl (fun S1 r h1 => ?_)
  obtain ⟨rfl, ⟨rfl, h1⟩ | ⟨rfl, h1⟩⟩ := h1
  · refine r_if_eqN X d_Desk_same_29 (tgt := 36) (by decide) (by omega) (fun hc => ?_) (fun hc => ?_)
    · omega
    · refine r_iconst X (x := (nI 1)) d_Desk_same_32 (by decide) ?_
      refine r_goto X d_Desk_same_33 (tgt := 37) (by decide) ?_
      exact hR _ _ _ _ d_Desk_same_37 (by decide) ⟨_, rfl, Or.inr ⟨k, x, hk, hx, rfl, rfl, Or.inl ⟨rfl, h1⟩⟩, rfl⟩
  · refine r_if_eqN X d_Desk_same_29 (tgt := 36) (by decide) (by omega) (fun hc => ?_) (fun hc => ?_)
    · refine r_iconst X (x := (nI 0)) d_Desk_same_36 (by decide) ?_
      exact hR _ _ _ _ d_Desk_same_37 (by decide) ⟨_, rfl, Or.inr ⟨k, x, hk, hx, rfl, rfl, Or.inr ⟨rfl, h1⟩⟩, rfl⟩
    · omega
def O_ratio (V : Vt) (s : Int32) (r : Int32) : Prop := (¬ sl s ∧ r = -9) ∨ ∃ k, k < 8 ∧ s = nI k ∧ r = nI (V k).2.2
set_option maxHeartbeats 4000000 in
set_option maxRecDepth 100000 in
theorem c_ratio {B : Nat} {s : Int32} {V : Vt} (hd : isD G cT B) (hV : Rep S B V) : CT (mkE l D cI cT) G y_Desk_ratio b_Desk_ratio 2 (some .int) 6 [.ref B, .int s] S (Pi (fun S' r => O_ratio V s r ∧ S' = S)) := by
  obtain ⟨hB, hA, hsl, hres, hrem, hC, hSp⟩ := hd
  refine mk_i (by decide) (eok l D cI cT) (by simp [Value.category]) (Nat.le_of_ble_eq_true rfl) (fun J X hR => ?_)
  show J S 0 [some (.ref B), some (.int s)] []
  have hbad : ¬ sl s → J S 19 [some (.ref B), some (.int s)] [] := by
    intro h
    refine r_bipush X (x := (-9)) d_Desk_ratio_19 (by decide) ?_
    exact hR _ _ _ _ d_Desk_ratio_21 rfl ⟨_, rfl, Or.inl ⟨h, rfl⟩, rfl⟩
  refine r_iload_n X d_Desk_ratio_0 (by rfl) ?_
  refine r_cSi X ls_Desk_39 c_isSlot (by decide) rfl (Nat.le_of_ble_eq_true rfl) d_Desk_ratio_1 rfl (fun Sx rx hx => ?_)
  obtain ⟨hxs, hx⟩ := hx
  replace hxs := hxs.symm
  subst hxs
  rcases hx with ⟨rfl, g1⟩ | ⟨rfl, g1⟩
  rotate_left
  · refine r_if_eqN X d_Desk_ratio_4 (tgt := 19) (by decide) (by omega) (fun _ => ?_) (fun hc => absurd rfl hc)
    exact hbad (fun h => g1 h)
  refine r_if_eqN X d_Desk_ratio_4 (tgt := 19) (by decide) (by omega) (fun hc => absurd hc (by decide)) (fun _ => ?_)
  obtain ⟨k, hk, rfl⟩ := g1
  have hkT := (hsl k hk).1
  refine r_aload_n X d_Desk_ratio_7 (by rfl) ?_
  refine r_get X lf_Desk_11 d_Desk_ratio_8 (by assumption) (by rfl) ?_
  refine r_iload_n X d_Desk_ratio_11 (by rfl) ?_
  refine r_aald X d_Desk_ratio_12 (by assumption) rfl (by omega) (by omega) (slf_at (by omega)) ?_
  refine r_get X lf_Desk_63 d_Desk_ratio_13 (by assumption) (by rfl) ?_
  rw [(hV k hk).2.2]
  refine r_goto X d_Desk_ratio_16 (tgt := 21) (by decide) ?_
  exact hR _ _ _ _ d_Desk_ratio_21 rfl ⟨_, rfl, Or.inr ⟨k, hk, rfl, rfl⟩, rfl⟩
def O_deg (V : Vt) (s : Int32) (r : Int32) : Prop := (¬ sl s ∧ r = -9) ∨ ∃ k, k < 8 ∧ s = nI k ∧ r = tI (tp (V k).1 32)
set_option maxHeartbeats 4000000 in
set_option maxRecDepth 100000 in
theorem c_degree {B : Nat} {s : Int32} {V : Vt} (hd : isD G cT B) (hV : Rep S B V) : CT (mkE l D cI cT) G y_Desk_degree b_Desk_degree 2 (some .int) 6 [.ref B, .int s] S (Pi (fun S' r => O_deg V s r ∧ S' = S)) := by
  obtain ⟨hB, hA, hsl, hres, hrem, hC, hSp⟩ := hd
  refine mk_i (by decide) (eok l D cI cT) (by simp [Value.category]) (Nat.le_of_ble_eq_true rfl) (fun J X hR => ?_)
  show J S 0 [some (.ref B), some (.int s)] []
  have hbad : ¬ sl s → J S 22 [some (.ref B), some (.int s)] [] := by
    intro h
    refine r_bipush X (x := (-9)) d_Desk_degree_22 (by decide) ?_
    exact hR _ _ _ _ d_Desk_degree_24 rfl ⟨_, rfl, Or.inl ⟨h, rfl⟩, rfl⟩
  refine r_iload_n X d_Desk_degree_0 (by rfl) ?_
  refine r_cSi X ls_Desk_39 c_isSlot (by decide) rfl (Nat.le_of_ble_eq_true rfl) d_Desk_degree_1 rfl (fun Sx rx hx => ?_)
  obtain ⟨hxs, hx⟩ := hx
  replace hxs := hxs.symm
  subst hxs
  rcases hx with ⟨rfl, g1⟩ | ⟨rfl, g1⟩
  rotate_left
  · refine r_if_eqN X d_Desk_degree_4 (tgt := 22) (by decide) (by omega) (fun _ => ?_) (fun hc => absurd rfl hc)
    exact hbad (fun h => g1 h)
  refine r_if_eqN X d_Desk_degree_4 (tgt := 22) (by decide) (by omega) (fun hc => absurd hc (by decide)) (fun _ => ?_)
  obtain ⟨k, hk, rfl⟩ := g1
  have hkT := (hsl k hk).1
  have hkP := (hsl k hk).2.1.1
  refine r_aload_n X d_Desk_degree_7 (by rfl) ?_
  refine r_get X lf_Desk_11 d_Desk_degree_8 (by assumption) (by rfl) ?_
  refine r_iload_n X d_Desk_degree_11 (by rfl) ?_
  refine r_aald X d_Desk_degree_12 (by assumption) rfl (by omega) (by omega) (slf_at (by omega)) ?_
  refine r_get X lf_Desk_49 d_Desk_degree_13 (by assumption) (by rfl) ?_
  refine r_get X lf_Desk_110 d_Desk_degree_16 (by assumption) (by rfl) ?_
  rw [(hV k hk).1.2]
  refine r_goto X d_Desk_degree_19 (tgt := 24) (by decide) ?_
  exact hR _ _ _ _ d_Desk_degree_24 rfl ⟨_, rfl, Or.inr ⟨k, hk, rfl, rfl⟩, rfl⟩
def ix32 (x : Int32) : Prop := ∃ k, k < 32 ∧ x = nI k
def O_coef (V : Vt) (s i : Int32) (r : Int32) : Prop := (¬ (sl s ∧ ix32 i) ∧ r = -9) ∨ ∃ k j, k < 8 ∧ j < 32 ∧ s = nI k ∧ i = nI j ∧ r = nI ((V k).1 j)
set_option maxHeartbeats 4000000 in
set_option maxRecDepth 100000 in
theorem c_coefficient {B : Nat} {s i : Int32} {V : Vt} (hd : isD G cT B) (hV : Rep S B V) : CT (mkE l D cI cT) G y_Desk_coefficient b_Desk_coefficient 3 (some .int) 6 [.ref B, .int s, .int i] S (Pi (fun S' r => O_coef V s i r ∧ S' = S)) := by
  obtain ⟨hB, hA, hsl, hres, hrem, hC, hSp⟩ := hd
  refine mk_i (by decide) (eok l D cI cT) (by simp [Value.category]) (Nat.le_of_ble_eq_true rfl) (fun J X hR => ?_)
  show J S 0 [some (.ref B), some (.int s), some (.int i)] []
  have hbad : ¬ (sl s ∧ ix32 i) → J S 17 [some (.ref B), some (.int s), some (.int i)] [] := by
    intro h
    refine r_bipush X (x := (-9)) d_Desk_coefficient_17 (by decide) ?_
    exact hR _ _ _ _ d_Desk_coefficient_19 rfl ⟨_, rfl, Or.inl ⟨h, rfl⟩, rfl⟩
  refine r_iload_n X d_Desk_coefficient_0 (by rfl) ?_
  refine r_cSi X ls_Desk_39 c_isSlot (by decide) rfl (Nat.le_of_ble_eq_true rfl) d_Desk_coefficient_1 rfl (fun Sx rx hx => ?_)
  obtain ⟨hxs, hx⟩ := hx
  replace hxs := hxs.symm
  subst hxs
  rcases hx with ⟨rfl, g1⟩ | ⟨rfl, g1⟩
  rotate_left
  · refine r_if_eqN X d_Desk_coefficient_4 (tgt := 17) (by decide) (by omega) (fun _ => ?_) (fun hc => absurd rfl hc)
    exact hbad (fun h => g1 h.1)
  refine r_if_eqN X d_Desk_coefficient_4 (tgt := 17) (by decide) (by omega) (fun hc => absurd hc (by decide)) (fun _ => ?_)
  refine r_iload_n X d_Desk_coefficient_7 (by rfl) ?_
  refine r_if_lt X d_Desk_coefficient_8 (tgt := 17) (by decide) (fun hc => ?_) (fun hc => ?_)
  · exact hbad (fun h => by obtain ⟨-, k, hk, e⟩ := h; exact nI_neg_no hc (by omega) e)
  · obtain ⟨j, hj, rfl⟩ := nI_of hc
    refine r_iload_n X d_Desk_coefficient_11 (by rfl) ?_
    refine r_bipush X (x := (nI 31)) d_Desk_coefficient_12 (by decide) ?_
    refine r_icmp_leN X d_Desk_coefficient_14 (tgt := 20) (by decide) (by omega) (by omega) (fun hc => ?_) (fun hc => ?_)
    · obtain ⟨k, hk, rfl⟩ := g1
      have hkT := (hsl k hk).1
      have hkP := (hsl k hk).2.1.1
      have hka := (hsl k hk).2.1.2.1
      refine r_aload_n X d_Desk_coefficient_20 (by rfl) ?_
      refine r_get X lf_Desk_11 d_Desk_coefficient_21 (by assumption) (by rfl) ?_
      refine r_iload_n X d_Desk_coefficient_24 (by rfl) ?_
      refine r_aald X d_Desk_coefficient_25 (by assumption) rfl (by omega) (by omega) (slf_at (by omega)) ?_
      refine r_get X lf_Desk_49 d_Desk_coefficient_26 (by assumption) (by rfl) ?_
      refine r_get X lf_Desk_113 d_Desk_coefficient_29 (by assumption) (by rfl) ?_
      refine r_iload_n X d_Desk_coefficient_32 (by rfl) ?_
      refine r_iald X d_Desk_coefficient_33 (by assumption) (by omega) (by omega) ?_
      exact hR _ _ _ _ d_Desk_coefficient_34 rfl ⟨_, rfl, Or.inr ⟨k, j, hk, by omega, rfl, rfl, by rw [(hV k hk).1.1]⟩, rfl⟩
    · exact hbad (fun h => by obtain ⟨-, k, hk, e⟩ := h; have := (nI_eq hj (by omega)).mp e; omega)
def O_exp (V : Vt) (s b : Int32) (r : Int32) : Prop := (¬ (sl s ∧ sl b) ∧ r = -9) ∨ ∃ k j, k < 8 ∧ j < 8 ∧ s = nI k ∧ b = nI j ∧ r = nI ((V k).2.1 j)
set_option maxHeartbeats 4000000 in
set_option maxRecDepth 100000 in
theorem c_exponent {B : Nat} {s b : Int32} {V : Vt} (hd : isD G cT B) (hV : Rep S B V) : CT (mkE l D cI cT) G y_Desk_exponent b_Desk_exponent 3 (some .int) 6 [.ref B, .int s, .int b] S (Pi (fun S' r => O_exp V s b r ∧ S' = S)) := by
  obtain ⟨hB, hA, hsl, hres, hrem, hC, hSp⟩ := hd
  refine mk_i (by decide) (eok l D cI cT) (by simp [Value.category]) (Nat.le_of_ble_eq_true rfl) (fun J X hR => ?_)
  show J S 0 [some (.ref B), some (.int s), some (.int b)] []
  have hbad : ¬ (sl s ∧ sl b) → J S 28 [some (.ref B), some (.int s), some (.int b)] [] := by
    intro h
    refine r_bipush X (x := (-9)) d_Desk_exponent_28 (by decide) ?_
    exact hR _ _ _ _ d_Desk_exponent_30 rfl ⟨_, rfl, Or.inl ⟨h, rfl⟩, rfl⟩
  refine r_iload_n X d_Desk_exponent_0 (by rfl) ?_
  refine r_cSi X ls_Desk_39 c_isSlot (by decide) rfl (Nat.le_of_ble_eq_true rfl) d_Desk_exponent_1 rfl (fun Sx rx hx => ?_)
  obtain ⟨hxs, hx⟩ := hx
  replace hxs := hxs.symm
  subst hxs
  rcases hx with ⟨rfl, g1⟩ | ⟨rfl, g1⟩
  rotate_left
  · refine r_if_eqN X d_Desk_exponent_4 (tgt := 28) (by decide) (by omega) (fun _ => ?_) (fun hc => absurd rfl hc)
    exact hbad (fun h => g1 h.1)
  refine r_if_eqN X d_Desk_exponent_4 (tgt := 28) (by decide) (by omega) (fun hc => absurd hc (by decide)) (fun _ => ?_)
  refine r_iload_n X d_Desk_exponent_7 (by rfl) ?_
  refine r_cSi X ls_Desk_67 c_isPole (by decide) rfl (Nat.le_of_ble_eq_true rfl) d_Desk_exponent_8 rfl (fun Sx rx hx => ?_)
  obtain ⟨hxs, hx⟩ := hx
  replace hxs := hxs.symm
  subst hxs
  rcases hx with ⟨rfl, g2⟩ | ⟨rfl, g2⟩
  rotate_left
  · refine r_if_eqN X d_Desk_exponent_11 (tgt := 28) (by decide) (by omega) (fun _ => ?_) (fun hc => absurd rfl hc)
    exact hbad (fun h => g2 h.2)
  refine r_if_eqN X d_Desk_exponent_11 (tgt := 28) (by decide) (by omega) (fun hc => absurd hc (by decide)) (fun _ => ?_)
  obtain ⟨k, hk, rfl⟩ := g1
  obtain ⟨j, hj, rfl⟩ := g2
  have hkT := (hsl k hk).1
  have hke := (hsl k hk).2.2
  refine r_aload_n X d_Desk_exponent_14 (by rfl) ?_
  refine r_get X lf_Desk_11 d_Desk_exponent_15 (by assumption) (by rfl) ?_
  refine r_iload_n X d_Desk_exponent_18 (by rfl) ?_
  refine r_aald X d_Desk_exponent_19 (by assumption) rfl (by omega) (by omega) (slf_at (by omega)) ?_
  refine r_get X lf_Desk_73 d_Desk_exponent_20 (by assumption) (by rfl) ?_
  refine r_iload_n X d_Desk_exponent_23 (by rfl) ?_
  refine r_iald X d_Desk_exponent_24 (by assumption) (by omega) (by omega) ?_
  refine r_goto X d_Desk_exponent_25 (tgt := 30) (by decide) ?_
  exact hR _ _ _ _ d_Desk_exponent_30 rfl ⟨_, rfl, Or.inr ⟨k, j, hk, hj, rfl, rfl, by rw [(hV k hk).2.1]⟩, rfl⟩
def O_wgt (V : Vt) (s b e : Int32) (r : Int32) : Prop := (¬ (sl s ∧ sl b ∧ px3 e) ∧ r = -9) ∨ ∃ k j i, k < 8 ∧ j < 8 ∧ 1 ≤ i ∧ i ≤ 3 ∧ s = nI k ∧ b = nI j ∧ e = nI i ∧ r = nI (wgc (V k).2.1 (V k).1 j i)
set_option maxHeartbeats 4000000 in
set_option maxRecDepth 100000 in
theorem c_weight {B : Nat} {s b e : Int32} {V : Vt} (hd : isD G cT B) (hV : Rep S B V) (hw : wfV V) : CT (mkE l D cI cT) G y_Desk_weight b_Desk_weight 4 (some .int) 6 [.ref B, .int s, .int b, .int e] S (Pi (fun S' r => O_wgt V s b e r ∧ Rep S' B V ∧ exD B S S')) := by
  obtain ⟨hB, hA, hsl, hres, hrem, hC, hSp⟩ := hd
  have hSS := hSp.1
  refine mk_i (by decide) (eok l D cI cT) (by simp [Value.category]) (Nat.le_of_ble_eq_true rfl) (fun J X hR => ?_)
  show J S 0 [some (.ref B), some (.int s), some (.int b), some (.int e)] []
  have hbad : ¬ (sl s ∧ sl b ∧ px3 e) → J S 21 [some (.ref B), some (.int s), some (.int b), some (.int e)] [] := by
    intro h
    refine r_bipush X (x := (-9)) d_Desk_weight_21 (by decide) ?_
    exact hR _ _ _ _ d_Desk_weight_23 rfl ⟨_, rfl, Or.inl ⟨h, rfl⟩, hV, Ex.rf _ _⟩
  refine r_iload_n X d_Desk_weight_0 (by rfl) ?_
  refine r_cSi X ls_Desk_39 c_isSlot (by decide) rfl (Nat.le_of_ble_eq_true rfl) d_Desk_weight_1 rfl (fun Sx rx hx => ?_)
  obtain ⟨hxs, hx⟩ := hx
  replace hxs := hxs.symm
  subst hxs
  rcases hx with ⟨rfl, g1⟩ | ⟨rfl, g1⟩
  rotate_left
  · refine r_if_eqN X d_Desk_weight_4 (tgt := 21) (by decide) (by omega) (fun _ => ?_) (fun hc => absurd rfl hc)
    exact hbad (fun h => g1 h.1)
  refine r_if_eqN X d_Desk_weight_4 (tgt := 21) (by decide) (by omega) (fun hc => absurd hc (by decide)) (fun _ => ?_)
  refine r_iload_n X d_Desk_weight_7 (by rfl) ?_
  refine r_cSi X ls_Desk_67 c_isPole (by decide) rfl (Nat.le_of_ble_eq_true rfl) d_Desk_weight_8 rfl (fun Sx rx hx => ?_)
  obtain ⟨hxs, hx⟩ := hx
  replace hxs := hxs.symm
  subst hxs
  rcases hx with ⟨rfl, g2⟩ | ⟨rfl, g2⟩
  rotate_left
  · refine r_if_eqN X d_Desk_weight_11 (tgt := 21) (by decide) (by omega) (fun _ => ?_) (fun hc => absurd rfl hc)
    exact hbad (fun h => g2 h.2.1)
  refine r_if_eqN X d_Desk_weight_11 (tgt := 21) (by decide) (by omega) (fun hc => absurd hc (by decide)) (fun _ => ?_)
  refine r_iload_n X d_Desk_weight_14 (by rfl) ?_
  refine r_cSi X ls_Desk_70 c_isPosExp (by decide) rfl (Nat.le_of_ble_eq_true rfl) d_Desk_weight_15 rfl (fun Sx rx hx => ?_)
  obtain ⟨hxs, hx⟩ := hx
  replace hxs := hxs.symm
  subst hxs
  rcases hx with ⟨rfl, g3⟩ | ⟨rfl, g3⟩
  rotate_left
  · refine r_if_neN X d_Desk_weight_18 (tgt := 24) (by decide) (by omega) (fun hc => absurd rfl hc) (fun _ => ?_)
    exact hbad (fun h => g3 h.2.2)
  refine r_if_neN X d_Desk_weight_18 (tgt := 24) (by decide) (by omega) (fun _ => ?_) (fun hc => absurd hc (by decide))
  obtain ⟨k, hk, rfl⟩ := g1
  obtain ⟨j, hj, rfl⟩ := g2
  obtain ⟨i, hi1, hi3, rfl⟩ := g3
  have wk := hw k hk
  refine r_aload_n X d_Desk_weight_24 (by rfl) ?_
  refine r_get X lf_Desk_35 d_Desk_weight_25 (by assumption) (by rfl) ?_
  refine r_aload_n X d_Desk_weight_28 (by rfl) ?_
  refine r_get X lf_Desk_11 d_Desk_weight_29 (by assumption) (by rfl) ?_
  refine r_iload_n X d_Desk_weight_32 (by rfl) ?_
  refine r_aald X d_Desk_weight_33 (by assumption) rfl (by omega) (by omega) (slf_at (by omega)) ?_
  refine r_iload_n X d_Desk_weight_34 (by rfl) ?_
  refine r_iload_n X d_Desk_weight_35 (by rfl) ?_
  refine r_cVi X lv_Desk_116 (c_weightOf (b := j) (k := i) hSp (hsl k hk) wk.1 wk.e hj (by omega) (hV k hk)) (by assumption) (by decide) rfl (Nat.le_of_ble_eq_true rfl) d_Desk_weight_36 rfl (fun S1 r h1 => ?_)
  obtain ⟨hx1, rfl⟩ := h1
  exact hR _ _ _ _ d_Desk_weight_39 rfl ⟨_, rfl, Or.inr ⟨k, j, i, hk, hj, hi1, hi3, rfl, rfl, rfl, rfl⟩, hV.ex hx1 (fun a h1 h2 => by omega), hx1.mono (fun a h => by omega)⟩
def tv (T : Tt) (x : Int32) : Nat := tvl 32 T.1 T.2.1 T.2.2 x
def O_val (V : Vt) (s x : Int32) (r : Int32) : Prop := (¬ (sl s ∧ plc x) ∧ r = -9) ∨ ∃ k, k < 8 ∧ s = nI k ∧ plc x ∧ ((undf (V k).2.1 x ∧ r = -6) ∨ (¬ undf (V k).2.1 x ∧ r = nI (tv (V k) x)))
set_option maxHeartbeats 4000000 in
set_option maxRecDepth 100000 in
theorem c_value {B : Nat} {s x : Int32} {V : Vt} (hd : isD G cT B) (hV : Rep S B V) (hw : wfV V) : CT (mkE l D cI cT) G y_Desk_value b_Desk_value 3 (some .int) 6 [.ref B, .int s, .int x] S (Pi (fun S' r => O_val V s x r ∧ S' = S)) := by
  obtain ⟨hB, hA, hsl, hres, hrem, hC, hSp⟩ := hd
  refine mk_i (by decide) (eok l D cI cT) (by simp [Value.category]) (Nat.le_of_ble_eq_true rfl) (fun J X hR => ?_)
  show J S 0 [some (.ref B), some (.int s), some (.int x)] []
  have hbad : ¬ (sl s ∧ plc x) → J S 14 [some (.ref B), some (.int s), some (.int x)] [] := by
    intro h
    refine r_bipush X (x := (-9)) d_Desk_value_14 (by decide) ?_
    exact hR _ _ _ _ d_Desk_value_16 rfl ⟨_, rfl, Or.inl ⟨h, rfl⟩, rfl⟩
  refine r_iload_n X d_Desk_value_0 (by rfl) ?_
  refine r_cSi X ls_Desk_39 c_isSlot (by decide) rfl (Nat.le_of_ble_eq_true rfl) d_Desk_value_1 rfl (fun Sx rx hx => ?_)
  obtain ⟨hxs, hx⟩ := hx
  replace hxs := hxs.symm
  subst hxs
  rcases hx with ⟨rfl, g1⟩ | ⟨rfl, g1⟩
  rotate_left
  · refine r_if_eqN X d_Desk_value_4 (tgt := 14) (by decide) (by omega) (fun _ => ?_) (fun hc => absurd rfl hc)
    exact hbad (fun h => g1 h.1)
  refine r_if_eqN X d_Desk_value_4 (tgt := 14) (by decide) (by omega) (fun hc => absurd hc (by decide)) (fun _ => ?_)
  refine r_iload_n X d_Desk_value_7 (by rfl) ?_
  refine r_cSi X ls_Desk_120 c_isPlace (by decide) rfl (Nat.le_of_ble_eq_true rfl) d_Desk_value_8 rfl (fun Sx rx hx => ?_)
  obtain ⟨hxs, hx⟩ := hx
  replace hxs := hxs.symm
  subst hxs
  rcases hx with ⟨rfl, g2⟩ | ⟨rfl, g2⟩
  rotate_left
  · refine r_if_neN X d_Desk_value_11 (tgt := 17) (by decide) (by omega) (fun hc => absurd rfl hc) (fun _ => ?_)
    exact hbad (fun h => g2 h.2)
  refine r_if_neN X d_Desk_value_11 (tgt := 17) (by decide) (by omega) (fun _ => ?_) (fun hc => absurd hc (by decide))
  obtain ⟨k, hk, rfl⟩ := g1
  have wk := hw k hk
  have hkT := (hsl k hk).1
  obtain ⟨p1, p2⟩ := g2
  refine r_aload_n X d_Desk_value_17 (by rfl) ?_
  refine r_get X lf_Desk_11 d_Desk_value_18 (by assumption) (by rfl) ?_
  refine r_iload_n X d_Desk_value_21 (by rfl) ?_
  refine r_aald X d_Desk_value_22 (by assumption) rfl (by omega) (by omega) (slf_at (by omega)) ?_
  refine r_iload_n X d_Desk_value_23 (by rfl) ?_
  refine r_cVi X lv_Desk_123 (c_isDefinedAt (hsl k hk) wk.e (hV k hk)) (by assumption) (by decide) rfl (Nat.le_of_ble_eq_true rfl) d_Desk_value_24 rfl (fun S1 r h1 => ?_)
  obtain ⟨hxs, h1⟩ := h1
  replace hxs := hxs.symm
  subst hxs
  obtain ⟨rfl, h1⟩ | ⟨rfl, h1⟩ := h1
  · refine r_if_eqN X d_Desk_value_27 (tgt := 43) (by decide) (by omega) (fun hc => ?_) (fun hc => ?_)
    · refine r_bipush X (x := (-6)) d_Desk_value_43 (by decide) ?_
      exact hR _ _ _ _ d_Desk_value_45 rfl ⟨_, rfl, Or.inr ⟨k, hk, rfl, ⟨p1, p2⟩, Or.inl ⟨h1, rfl⟩⟩, rfl⟩
    · omega
  · refine r_if_eqN X d_Desk_value_27 (tgt := 43) (by decide) (by omega) (fun hc => ?_) (fun hc => ?_)
    · omega
    · refine r_aload_n X d_Desk_value_30 (by rfl) ?_
      refine r_get X lf_Desk_11 d_Desk_value_31 (by assumption) (by rfl) ?_
      refine r_iload_n X d_Desk_value_34 (by rfl) ?_
      refine r_aald X d_Desk_value_35 (by assumption) rfl (by omega) (by omega) (slf_at (by omega)) ?_
      refine r_iload_n X d_Desk_value_36 (by rfl) ?_
      refine r_cVi X lv_Desk_126 (c_tat (hsl k hk) wk.1 wk.e wk.2.2.2.2 (by omega) (by omega) (hV k hk)) (by assumption) (by decide) rfl (Nat.le_of_ble_eq_true rfl) d_Desk_value_37 rfl (fun S2 r h2 => ?_)
      obtain ⟨rfl, rfl⟩ := h2
      refine r_goto X d_Desk_value_40 (tgt := 45) (by decide) ?_
      exact hR _ _ _ _ d_Desk_value_45 rfl ⟨_, rfl, Or.inr ⟨k, hk, rfl, ⟨p1, p2⟩, Or.inr ⟨h1, rfl⟩⟩, rfl⟩
def tsm (T : Tt) (u : Int32) : Nat → Nat
  | 0 => 0
  | j + 1 => (tsm T u j + tv T (u + nI j)) % 10007
theorem tsm_lt (T : Tt) (u : Int32) (j : Nat) : tsm T u j < 10007 := by
  cases j with
  | zero => exact (by decide : 0 < 10007)
  | succ j => exact Nat.mod_lt _ (by decide)
def spn (u v : Int32) : Nat := (v.toInt - u.toInt + 1).toNat
def O_sum (V : Vt) (s u v : Int32) (r : Int32) : Prop := (¬ (sl s ∧ plc u ∧ plc v) ∧ r = -9) ∨ ∃ k, k < 8 ∧ s = nI k ∧ plc u ∧ plc v ∧ (((∃ j, j < spn u v ∧ undf (V k).2.1 (u + nI j)) ∧ r = -6) ∨ ((¬ ∃ j, j < spn u v ∧ undf (V k).2.1 (u + nI j)) ∧ r = nI (tsm (V k) u (spn u v))))
theorem add_toInt {u : Int32} {j : Nat} (h1 : -1000 ≤ u.toInt) (h2 : u.toInt ≤ 1000) (hj : j ≤ 5000) : (u + nI j).toInt = u.toInt + j := by
  rw [Int32.toInt_add, nI_toInt (by omega)]
  unfold Int.bmod
  simp only
  split <;> omega
theorem tv_lt (T : Tt) (x : Int32) : tv T x < 10007 := Nat.mod_lt _ (by decide)
set_option maxHeartbeats 4000000 in
set_option maxRecDepth 100000 in
theorem c_sum {B : Nat} {s u v : Int32} {V : Vt} (hd : isD G cT B) (hV : Rep S B V) (hw : wfV V) : CT (mkE l D cI cT) G y_Desk_sum b_Desk_sum 6 (some .int) 6 [.ref B, .int s, .int u, .int v] S (Pi (fun S' r => O_sum V s u v r ∧ S' = S)) := by
  obtain ⟨hB, hA, hsl, hres, hrem, hC, hSp⟩ := hd
  refine mk_i (by decide) (eok l D cI cT) (by simp [Value.category]) (Nat.le_of_ble_eq_true rfl) (fun J X hR => ?_)
  show J S 0 [some (.ref B), some (.int s), some (.int u), some (.int v), none, none] []
  have hbad : ¬ (sl s ∧ plc u ∧ plc v) → J S 21 [some (.ref B), some (.int s), some (.int u), some (.int v), none, none] [] := by
    intro h
    refine r_bipush X (x := (-9)) d_Desk_sum_21 (by decide) ?_
    exact hR _ _ _ _ d_Desk_sum_23 rfl ⟨_, rfl, Or.inl ⟨h, rfl⟩, rfl⟩
  refine r_iload_n X d_Desk_sum_0 (by rfl) ?_
  refine r_cSi X ls_Desk_39 c_isSlot (by decide) rfl (Nat.le_of_ble_eq_true rfl) d_Desk_sum_1 rfl (fun Sx rx hx => ?_)
  obtain ⟨hxs, hx⟩ := hx
  replace hxs := hxs.symm
  subst hxs
  rcases hx with ⟨rfl, g1⟩ | ⟨rfl, g1⟩
  rotate_left
  · refine r_if_eqN X d_Desk_sum_4 (tgt := 21) (by decide) (by omega) (fun _ => ?_) (fun hc => absurd rfl hc)
    exact hbad (fun h => g1 h.1)
  refine r_if_eqN X d_Desk_sum_4 (tgt := 21) (by decide) (by omega) (fun hc => absurd hc (by decide)) (fun _ => ?_)
  refine r_iload_n X d_Desk_sum_7 (by rfl) ?_
  refine r_cSi X ls_Desk_120 c_isPlace (by decide) rfl (Nat.le_of_ble_eq_true rfl) d_Desk_sum_8 rfl (fun Sx rx hx => ?_)
  obtain ⟨hxs, hx⟩ := hx
  replace hxs := hxs.symm
  subst hxs
  rcases hx with ⟨rfl, g2⟩ | ⟨rfl, g2⟩
  rotate_left
  · refine r_if_eqN X d_Desk_sum_11 (tgt := 21) (by decide) (by omega) (fun _ => ?_) (fun hc => absurd rfl hc)
    exact hbad (fun h => g2 h.2.1)
  refine r_if_eqN X d_Desk_sum_11 (tgt := 21) (by decide) (by omega) (fun hc => absurd hc (by decide)) (fun _ => ?_)
  refine r_iload_n X d_Desk_sum_14 (by rfl) ?_
  refine r_cSi X ls_Desk_120 c_isPlace (by decide) rfl (Nat.le_of_ble_eq_true rfl) d_Desk_sum_15 rfl (fun Sx rx hx => ?_)
  obtain ⟨hxs, hx⟩ := hx
  replace hxs := hxs.symm
  subst hxs
  rcases hx with ⟨rfl, g3⟩ | ⟨rfl, g3⟩
  rotate_left
  · refine r_if_neN X d_Desk_sum_18 (tgt := 24) (by decide) (by omega) (fun hc => absurd rfl hc) (fun _ => ?_)
    exact hbad (fun h => g3 h.2.2)
  refine r_if_neN X d_Desk_sum_18 (tgt := 24) (by decide) (by omega) (fun _ => ?_) (fun hc => absurd hc (by decide))
  obtain ⟨k, hk, rfl⟩ := g1
  have wk := hw k hk
  have hkT := (hsl k hk).1
  have p2 := g2
  have p3 := g3
  obtain ⟨q1, q2⟩ := g2
  obtain ⟨q3, q4⟩ := g3
  have loop : ∀ m j, j + m = spn u v → (∀ i, i < j → ¬ undf (V k).2.1 (u + nI i)) → J S 30 [some (.ref B), some (.int (nI k)), some (.int u), some (.int v), some (.int (nI (tsm (V k) u j))), some (.int (u + nI j))] [] := by
    intro m
    induction m with
    | zero =>
      intro j hj hno
      have hsp : spn u v = (v.toInt - u.toInt + 1).toNat := rfl
      have ea := add_toInt (u := u) (j := j) (by omega) (by omega) (by omega)
      refine r_iload X d_Desk_sum_30 (by rfl) ?_
      refine r_iload_n X d_Desk_sum_32 (by rfl) ?_
      refine r_icmp_gt X d_Desk_sum_33 (tgt := 79) (by decide) (fun hc => ?_) (fun hc => ?_)
      · refine r_iload X d_Desk_sum_79 (by rfl) ?_
        refine hR _ _ _ _ d_Desk_sum_81 rfl ⟨_, rfl, Or.inr ⟨k, hk, rfl, p2, p3, Or.inr ⟨fun ⟨i, hi, h⟩ => hno i (by omega) h, ?_⟩⟩, rfl⟩
        rw [show spn u v = j by omega]
      · rw [Int32.lt_iff_toInt_lt, ea] at hc
        omega
    | succ m ih =>
      intro j hj hno
      have hsp : spn u v = (v.toInt - u.toInt + 1).toNat := rfl
      have ea := add_toInt (u := u) (j := j) (by omega) (by omega) (by omega)
      have ht := tsm_lt (V k) u j
      have htv := tv_lt (V k) (u + nI j)
      refine r_iload X d_Desk_sum_30 (by rfl) ?_
      refine r_iload_n X d_Desk_sum_32 (by rfl) ?_
      refine r_icmp_gt X d_Desk_sum_33 (tgt := 79) (by decide) (fun hc => ?_) (fun hc => ?_)
      · rw [Int32.lt_iff_toInt_lt, ea] at hc
        omega
      · refine r_aload_n X d_Desk_sum_36 (by rfl) ?_
        refine r_get X lf_Desk_11 d_Desk_sum_37 (by assumption) (by rfl) ?_
        refine r_iload_n X d_Desk_sum_40 (by rfl) ?_
        refine r_aald X d_Desk_sum_41 (by assumption) rfl (by omega) (by omega) (slf_at (by omega)) ?_
        refine r_iload X d_Desk_sum_42 (by rfl) ?_
        refine r_cVi X lv_Desk_123 (c_isDefinedAt (hsl k hk) wk.e (hV k hk)) (by assumption) (by decide) rfl (Nat.le_of_ble_eq_true rfl) d_Desk_sum_44 rfl (fun S1 r h1 => ?_)
        obtain ⟨hxs, h1⟩ := h1
        replace hxs := hxs.symm
        subst hxs
        obtain ⟨rfl, h1⟩ | ⟨rfl, h1⟩ := h1
        · refine r_if_neN X d_Desk_sum_47 (tgt := 53) (by decide) (by omega) (fun hc => ?_) (fun hc => ?_)
          · omega
          · refine r_bipush X (x := (-6)) d_Desk_sum_50 (by decide) ?_
            exact hR _ _ _ _ d_Desk_sum_52 rfl ⟨_, rfl, Or.inr ⟨k, hk, rfl, p2, p3, Or.inl ⟨⟨j, by omega, h1⟩, rfl⟩⟩, rfl⟩
        · refine r_if_neN X d_Desk_sum_47 (tgt := 53) (by decide) (by omega) (fun hc => ?_) (fun hc => ?_)
          · refine r_iload X d_Desk_sum_53 (by rfl) ?_
            refine r_aload_n X d_Desk_sum_55 (by rfl) ?_
            refine r_get X lf_Desk_11 d_Desk_sum_56 (by assumption) (by rfl) ?_
            refine r_iload_n X d_Desk_sum_59 (by rfl) ?_
            refine r_aald X d_Desk_sum_60 (by assumption) rfl (by omega) (by omega) (slf_at (by omega)) ?_
            refine r_iload X d_Desk_sum_61 (by rfl) ?_
            refine r_cVi X lv_Desk_126 (c_tat (hsl k hk) wk.1 wk.e wk.2.2.2.2 (by omega) (by omega) (hV k hk)) (by assumption) (by decide) rfl (Nat.le_of_ble_eq_true rfl) d_Desk_sum_63 rfl (fun S2 r h2 => ?_)
            obtain ⟨hxs, rfl⟩ := h2
            replace hxs := hxs.symm
            subst hxs
            have e5 : tvl 32 (V k).1 (V k).2.1 (V k).2.2 (u + nI j) = tv (V k) (u + nI j) := rfl
            rw [e5]
            first | refine r_iaddN X d_Desk_sum_66 ?_ | refine r_iadd X d_Desk_sum_66 ?_
            refine r_sipush X (x := (nI 10007)) d_Desk_sum_67 (by decide) ?_
            refine r_iremN X d_Desk_sum_70 (by decide) (by decide) (by omega) ?_
            refine r_istore X d_Desk_sum_71 (by decide) ?_
            refine r_iinc X d_Desk_sum_73 (by rfl) (y := u + nI (j + 1)) ?_ (by decide) ?_
            · rw [Int32.add_assoc, show Int32.ofInt 1 = nI 1 by decide, nI_add]
            · refine r_goto X d_Desk_sum_76 (tgt := 30) (by decide) ?_
              refine ih (j + 1) (by omega) (fun i hi => ?_)
              by_cases h : i = j
              · rw [h]; exact h1
              · exact hno i (by omega)
          · omega
  refine r_iconst X (x := (nI 0)) d_Desk_sum_24 (by decide) ?_
  refine r_istore X d_Desk_sum_25 (by decide) ?_
  refine r_iload_n X d_Desk_sum_27 (by rfl) ?_
  refine r_istore X d_Desk_sum_28 (by decide) ?_
  refine r_forget X (L' := [some (.ref B), some (.int (nI k)), some (.int u), some (.int v), some (.int (nI (tsm (V k) u 0))), some (.int (u + nI 0))]) ?_ (loop (spn u v) 0 (by omega) (fun i hi => by omega))
  intro i w hw
  rw [show u + nI 0 = u by rw [nI_0, Int32.add_zero]] at hw
  exact hw
end D3
end
