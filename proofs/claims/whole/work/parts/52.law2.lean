def R_law : String := "TelescopeDeskLaw"
def lw_P (b : Addr) (xs : List Int32) (args : Array Value) (s : State) : Prop := args = #[.ref b] ∧ s.IntsAt b xs ∧ xs.length ≤ 2048 ∧ (Jvm.Cond.and given_1 narrow_1).before args s = true
def lw_Q (_ : Array Value) (s : State) (o : Outcome) (t : State) : Prop := o = .returned (some (.int 1)) ∧ Framed s o t [] 600000 7302250
def lw_Z (below : List Frame) (a : Array Value) (s : State) : State → Prop := fun t => ∃ o, t.status = .running ∧ Ended t below o ∧ lw_Q a s o t
theorem lw_ret {p : Program} {l : Launch} {e : Env} {s : State} {m : MethodId} {below : List Frame} {meth : Method} {c : Code} {b : Nat} (hx : p.tables.exec = Jvm.exec) (hb : c.code = code) (hr : meth.sig.returnType = ret) (hlocks : meth.locks = false) {pc : Nat} {H : Heap} {ls : Array Slot} (hdg : decode code pc = .ok (.ireturn, 1)) : W p l e room_1 s m #[Value.ref b] below meth c H [] 600000 7302250 (lw_Z below #[Value.ref b] s) (F0 m pc ls [.int 1]) := by
  intro T hT X
  obtain ⟨fs, hret, hrun, hended, hW, hframe⟩ := X.leave (v := some (.int 1)) (hlocks := hlocks) (fun h => by rw [hr] at h; cases h)
  have hmeth' : T.vm.method? m = some meth := X.method'
  refine ⟨T.setFrames fs, ?_, .returned (some (.int 1)), hrun, hended, rfl, ⟨_, rfl⟩, hW, hframe⟩
  jvm_step X.here [X.here.top, hx, hb, hdg, hmeth', hr, ret, narrow_b1]
  (try refine ⟨rfl, ?_⟩); (try refine ⟨rfl, ?_⟩)
  first | (intro acts; rw [hret _ acts rfl rfl rfl]) | rw [hret _ _ rfl rfl rfl]
  exact Steps.refl _
def lw_At (p : Program) (s : State) (m : MethodId) (meth : Method) (c : Code) (b L : Nat) (xs : Nat → Int32) : Prop :=
  p.tables.exec = Jvm.exec ∧ c.code = code ∧ meth.sig.returnType = ret ∧ c.maxLocals = 4 ∧ s.vm.findClass R_law = some m.cls ∧ (∀ w ∈ lw_tbl, w.before #[Value.ref b] s = true) ∧ va_X b L xs s s.heap ∧ b < s.heap.size ∧ meth.locks = false ∧ (Jvm.Cond.and given_1 narrow_1).before #[Value.ref b] s = true
theorem isD.cg {G G' : Gm} {cT : ClassId} {B : Nat} (h : isD G cT B) (e : ∀ a, B ≤ a → a < B + 58 → G' a = G a) : isD G' cT B := by
  obtain ⟨h1, h2, h3, h4, h5, h6, h7⟩ := h
  refine ⟨by rw [e B (by omega) (by omega)]; exact h1, by rw [e (B + 1) (by omega) (by omega)]; exact h2, fun k hk => (h3 k hk).cg (fun a g1 g2 => e a (by omega) (by omega)), h4.cg (fun a g1 g2 => e a (by omega) (by omega)), h5.cg (fun a g1 g2 => e a (by omega) (by omega)), h6.cg (fun a g1 g2 => e a (by omega) (by omega)), h7.cg (fun a g1 g2 => e a (by omega) (by omega))⟩
section LW
variable {p : Program} {e : Env} {R : Room} {s : State} {m : MethodId} {args : Array Value} {below : List Frame} {meth : Method} {c : Code} {E : Ev} {G : Gm} {A : Nat → Prop} {sz n1 n2 nL : Nat} {Q : State → Prop} {S : Sg} {pc : Nat} {L : List (Option Value)} {st : List Value} {cc : ByteArray}
theorem l_sld (hx : p.tables.exec = Jvm.exec) (hb : c.code = cc) {b n : Nat} {xs : Nat → Int32} (hX : va_X b n xs s s.heap) (hbl : b < s.heap.size) (hbA : ¬ A b) {i : Nat} (hi : i < n) (hn : n < 2 ^ 31) (d : decode cc pc = .ok (.iaload, 1)) (kk : jw p e R s m args below meth c E G A sz n1 n2 nL Q S (pc + 1) L (.int (xs i) :: st)) : jw p e R s m args below meth c E G A sz n1 n2 nL Q S pc L (.int (nI i) :: .ref b :: st) := by
  intro H locs ls hP hz hS hll
  refine va_sld hx hb hX hbl hbA hS (vp_in_nI hi hn) d ?_
  rw [nI_clamp (Nat.lt_trans hi hn)]
  exact kk H locs ls hP hz hS hll
theorem l_slen (hx : p.tables.exec = Jvm.exec) (hb : c.code = cc) {b n : Nat} {xs : Nat → Int32} (hX : va_X b n xs s s.heap) (hbl : b < s.heap.size) (hbA : ¬ A b) (d : decode cc pc = .ok (.arraylength, 1)) (kk : jw p e R s m args below meth c E G A sz n1 n2 nL Q S (pc + 1) L (.int (nI n) :: st)) : jw p e R s m args below meth c E G A sz n1 n2 nL Q S pc L (.ref b :: st) := by
  intro H locs ls hP hz hS hll
  exact va_slen hx hb hX hbl hbA hS d (kk H locs ls hP hz hS hll)
theorem l_tout (hx : p.tables.exec = Jvm.exec) (hb : c.code = cc) {dflt lo hi : Int} {offs : Array Int} {len : Nat} {x : Int32} {tgt : Nat} (d : decode cc pc = .ok (.tableswitch dflt lo hi offs, len)) (h : x.toInt < lo ∨ hi < x.toInt) (ht : (pc : Int) + dflt = (tgt : Int)) (kk : jw p e R s m args below meth c E G A sz n1 n2 nL Q S tgt L st) : jw p e R s m args below meth c E G A sz n1 n2 nL Q S pc L (.int x :: st) := by
  intro H locs ls hP hz hS hll
  exact lv_tableOut hx hb d h ht (kk H locs ls hP hz hS hll)
theorem l_tin (hx : p.tables.exec = Jvm.exec) (hb : c.code = cc) {dflt lo hi : Int} {offs : Array Int} {len : Nat} {x : Int32} {off : Int} {tgt : Nat} (d : decode cc pc = .ok (.tableswitch dflt lo hi offs, len)) (h1 : ¬ x.toInt < lo) (h2 : ¬ hi < x.toInt) (ho : offs[(x.toInt - lo).toNat]? = some off) (ht : (pc : Int) + off = (tgt : Int)) (kk : jw p e R s m args below meth c E G A sz n1 n2 nL Q S tgt L st) : jw p e R s m args below meth c E G A sz n1 n2 nL Q S pc L (.int x :: st) := by
  intro H locs ls hP hz hS hll
  exact lv_tableIn hx hb d h1 h2 ho ht (kk H locs ls hP hz hS hll)
end LW
section LV
variable {p : Program} {e : Env} {R : Room} {s : State} {m : MethodId} {args : Array Value} {below : List Frame} {meth : Method} {c : Code} {G : Gm} {A : Nat → Prop} {sz n1 n2 : Nat} {Q : State → Prop} {l : Launch} {D : va_G} {cI cT : ClassId} {B M b n : Nat} {xs : Nat → Int32}
set_option maxHeartbeats 8000000 in
set_option maxRecDepth 100000 in
theorem law_loop (hx : p.tables.exec = Jvm.exec) (hb : c.code = b_Law_law) (hX : va_X b n xs s s.heap) (hbl : b < s.heap.size) (hbA : ¬ A b) (hn : n ≤ 100000) (X : Cx (mkE l D cI cT) G "TelescopeDeskLaw" b_Law_law 4 8 (jw p e R s m args below meth c (mkE l D cI cT) G A sz n1 n2 4 Q)) (hD : isD G cT B) (hM : isM G M) (hBM : B + 58 ≤ M) (ret : ∀ (S : Sg) (L : List (Option Value)), (jw p e R s m args below meth c (mkE l D cI cT) G A sz n1 n2 4 Q) S 770 L []) : ∀ t i S V, i + t = n + 4 → gV V → Rep S B V → MI S M V → (jw p e R s m args below meth c (mkE l D cI cT) G A sz n1 n2 4 Q) S 18 [some (.ref b), some (.ref B), some (.ref M), some (.int (nI i))] [] := by
  intro t
  induction t using Nat.strongRecOn with
  | ind t ih =>
    intro i S V hit hg hR hI
    have next : i + 4 ≤ n → ∀ S2 V2, gV V2 → Rep S2 B V2 → MI S2 M V2 → (jw p e R s m args below meth c (mkE l D cI cT) G A sz n1 n2 4 Q) S2 764 [some (.ref b), some (.ref B), some (.ref M), some (.int (nI i))] [] := by
      intro hi4 S2 V2 g2 R2 I2
      refine r_iincN X 4 d_Law_law_764 (by rfl) (by decide) (by decide) ?_
      refine r_goto X d_Law_law_767 (tgt := 18) (by decide) ?_
      exact ih (t - 4) (by omega) (i + 4) S2 V2 (by omega) g2 R2 I2
    refine r_iload_n X d_Law_law_18 (by rfl) ?_
    refine r_aload_n X d_Law_law_19 (by rfl) ?_
    refine l_slen hx hb hX hbl hbA d_Law_law_20 ?_
    refine r_iconst X (x := nI 4) d_Law_law_21 (by decide) ?_
    refine r_isub X d_Law_law_22 ?_
    by_cases h4 : 4 ≤ n
    · refine r_int (pk_sub h4) ?_
      refine r_icmp_gtN X d_Law_law_23 (tgt := 770) (by decide) (by omega) (by omega) (fun hc => ?_) (fun hc => ?_)
      · exact ret _ _
      · have hi4 : i + 4 ≤ n := by omega
        have hsl : Sld (jw p e R s m args below meth c (mkE l D cI cT) G A sz n1 n2 4 Q) b i (fun k => xs (i + k)) := by
          intro S pc L st k hk d kk
          exact l_sld hx hb hX hbl hbA (by omega) (by omega) d kk
        have nx := next hi4
        refine r_aload_n X d_Law_law_26 (by rfl) ?_
        refine r_iload_n X d_Law_law_27 (by rfl) ?_
        refine l_sld hx hb hX hbl hbA (i := i) (by omega) (by omega) d_Law_law_28 ?_
        refine r_bipush X (x := (nI 31)) d_Law_law_29 (by decide) ?_
        refine r_iand X d_Law_law_31 ?_
        by_cases ho : (xs i &&& nI 31).toInt < 0 ∨ 17 < (xs i &&& nI 31).toInt
        · exact l_tout hx hb d_Law_sw (tgt := 764) ho (by decide) (nx _ _ hg hR hI)
        · obtain ⟨v, hv⟩ : ∃ v, (xs i &&& nI 31).toInt = v := ⟨_, rfl⟩
          have h0 : ¬ (xs i &&& nI 31).toInt < 0 := fun h => ho (Or.inl h)
          have h17 : ¬ 17 < (xs i &&& nI 31).toInt := fun h => ho (Or.inr h)
          rw [hv] at ho
          rcases (show v = 0 ∨ v = 1 ∨ v = 2 ∨ v = 3 ∨ v = 4 ∨ v = 5 ∨ v = 6 ∨ v = 7 ∨ v = 8 ∨ v = 9 ∨ v = 10 ∨ v = 11 ∨ v = 12 ∨ v = 13 ∨ v = 14 ∨ v = 15 ∨ v = 16 ∨ v = 17 by omega) with rfl | rfl | rfl | rfl | rfl | rfl | rfl | rfl | rfl | rfl | rfl | rfl | rfl | rfl | rfl | rfl | rfl | rfl
          · exact l_tin hx hb d_Law_sw (off := 88) (tgt := 120) h0 h17 (by rw [hv]; rfl) (by decide) (lc_const X hD hM hBM hsl hg hR hI nx)
          · exact l_tin hx hb d_Law_sw (off := 121) (tgt := 153) h0 h17 (by rw [hv]; rfl) (by decide) (lc_lin X hD hM hBM hsl hg hR hI nx)
          · exact l_tin hx hb d_Law_sw (off := 164) (tgt := 196) h0 h17 (by rw [hv]; rfl) (by decide) (lc_pow X hD hM hBM hsl hg hR hI nx)
          · exact l_tin hx hb d_Law_sw (off := 197) (tgt := 229) h0 h17 (by rw [hv]; rfl) (by decide) (lc_pole X hD hM hBM hsl hg hR hI nx)
          · exact l_tin hx hb d_Law_sw (off := 240) (tgt := 272) h0 h17 (by rw [hv]; rfl) (by decide) (lc_add X hD hM hBM hsl hg hR hI nx)
          · exact l_tin hx hb d_Law_sw (off := 283) (tgt := 315) h0 h17 (by rw [hv]; rfl) (by decide) (lc_mul X hD hM hBM hsl hg hR hI nx)
          · exact l_tin hx hb d_Law_sw (off := 326) (tgt := 358) h0 h17 (by rw [hv]; rfl) (by decide) (lc_shift X hD hM hBM hsl hg hR hI nx)
          · exact l_tin hx hb d_Law_sw (off := 359) (tgt := 391) h0 h17 (by rw [hv]; rfl) (by decide) (lc_diff X hD hM hBM hsl hg hR hI nx)
          · exact l_tin hx hb d_Law_sw (off := 392) (tgt := 424) h0 h17 (by rw [hv]; rfl) (by decide) (lc_tel X hD hM hBM hsl hg hR hI nx)
          · exact l_tin hx hb d_Law_sw (off := 435) (tgt := 467) h0 h17 (by rw [hv]; rfl) (by decide) (lc_chk X hD hM hBM hsl hg hR hI nx)
          · exact l_tin hx hb d_Law_sw (off := 468) (tgt := 500) h0 h17 (by rw [hv]; rfl) (by decide) (lc_same X hD hM hBM hsl hg hR hI nx)
          · exact l_tin hx hb d_Law_sw (off := 501) (tgt := 533) h0 h17 (by rw [hv]; rfl) (by decide) (lc_ratio X hD hM hBM hsl hg hR hI nx)
          · exact l_tin hx hb d_Law_sw (off := 524) (tgt := 556) h0 h17 (by rw [hv]; rfl) (by decide) (lc_deg X hD hM hBM hsl hg hR hI nx)
          · exact l_tin hx hb d_Law_sw (off := 547) (tgt := 579) h0 h17 (by rw [hv]; rfl) (by decide) (lc_coef X hD hM hBM hsl hg hR hI nx)
          · exact l_tin hx hb d_Law_sw (off := 580) (tgt := 612) h0 h17 (by rw [hv]; rfl) (by decide) (lc_exp X hD hM hBM hsl hg hR hI nx)
          · exact l_tin hx hb d_Law_sw (off := 613) (tgt := 645) h0 h17 (by rw [hv]; rfl) (by decide) (lc_wgt X hD hM hBM hsl hg hR hI nx)
          · exact l_tin hx hb d_Law_sw (off := 656) (tgt := 688) h0 h17 (by rw [hv]; rfl) (by decide) (lc_val X hD hM hBM hsl hg hR hI nx)
          · exact l_tin hx hb d_Law_sw (off := 689) (tgt := 721) h0 h17 (by rw [hv]; rfl) (by decide) (lc_sum X hD hM hBM hsl hg hR hI nx)
    · refine r_icmp_gt X d_Law_law_23 (tgt := 770) (by decide) (fun _ => ret _ _) (fun hc => absurd ?_ hc)
      have h1 := pk_sub_toInt (a := n) (b := 4) (by omega) (by omega)
      have h2 := nI_toInt (n := i) (by omega)
      rw [Int32.lt_iff_toInt_lt, h1, h2]
      omega
end LV
set_option maxHeartbeats 8000000 in
set_option maxRecDepth 100000 in
theorem whole_start {p : Program} {e : Env} {s : State} {m : MethodId} {below : List Frame} {meth : Method} {c : Code} (l : Launch) {b L : Nat} {xs : Nat → Int32} (hL : L ≤ 2048) (C0 : lw_At p s m meth c b L xs) : W p l e room_1 s m #[Value.ref b] below meth c s.heap [] 0 0 (lw_Z below #[Value.ref b] s) (entryFrame m ([Value.ref b] : List Value).toArray 4) := by
  obtain ⟨hx, hb, hr, hml, hown, hts, hX, hbl, hlk, hgv⟩ := C0
  have htA : ∀ w ∈ wA, w.before #[Value.ref b] s = true := fun w hw => hts w (List.mem_filter.mp hw).1
  have hAO : va_AO "TelescopeDesk$Term" s := va_AO.of (A := #[Value.ref b]) (hts _ (List.mem_append_right _ (List.mem_of_getElem? (i := 20) (by decide +kernel))))
  obtain ⟨c0, i0, k0⟩ := u_known htA uw_Poly (htA _ w27)
  obtain ⟨c1, i1, k1⟩ := u_known htA uw_Term (htA _ w21)
  obtain ⟨c2, i2, k2⟩ := u_known htA uw_Comb (htA _ w65)
  obtain ⟨c3, i3, k3⟩ := u_known htA uw_Split (htA _ w82)
  obtain ⟨c4, i4, k4⟩ := u_known htA uw_Desk (htA _ w12)
  obtain ⟨c5, i5, k5⟩ := u_known htA uw_Model (htA _ w406)
  obtain ⟨cI, kI, compI, fI, gI, qI⟩ := Cond.arrayClass_spec (htA _ w44)
  obtain ⟨comp, cT, kT, f1, f2, f3, f4, f5⟩ := Cond.arrayOver_spec hAO
  obtain ⟨D, hD1, hD2⟩ : ∃ D : va_G, D.1 = (fun j => match j with | 0 => c0 | 1 => c1 | 2 => c2 | 3 => c3 | 4 => c4 | _ => c5) ∧ D.2 = (fun j => match j with | 0 => i0 | 1 => i1 | 2 => i2 | 3 => i3 | 4 => i4 | _ => i5) := ⟨(_, _), rfl, rfl⟩
  have hK : va_K D clA [(cI, .int), (cT, .object "TelescopeDesk$Term")] s := by
    refine ⟨fun j q hq => ?_, fun j q hq => ?_⟩
    · rw [hD1, hD2]
      match j with
      | 0 =>
        obtain rfl : (R_Poly, F_Poly, 2) = q := Option.some.inj hq
        exact k0
      | 1 =>
        obtain rfl : (R_Term, F_Term, 3) = q := Option.some.inj hq
        exact k1
      | 2 =>
        obtain rfl : (R_Comb, F_Comb, 2) = q := Option.some.inj hq
        exact k2
      | 3 =>
        obtain rfl : (R_Split, F_Split, 5) = q := Option.some.inj hq
        exact k3
      | 4 =>
        obtain rfl : (R_Desk, F_Desk, 5) = q := Option.some.inj hq
        exact k4
      | 5 =>
        obtain rfl : (R_Model, F_Model, 10) = q := Option.some.inj hq
        exact k5
      | j + 6 => exact nomatch (show (none : Option vw_C) = some q from hq)
    · match j with
      | 0 =>
        obtain rfl : (cI, FieldType.int) = q := Option.some.inj hq
        exact ⟨fun N z => ⟨(fun k h => by cases h), kI, gI, compI, qI⟩, fI⟩
      | 1 =>
        obtain rfl : (cT, FieldType.object "TelescopeDesk$Term") = q := Option.some.inj hq
        exact ⟨fun N z => ⟨(fun k h => by cases h), kT, f3, comp, f4⟩, kT, comp, f3, f4, f1, f5⟩
      | j + 2 => exact nomatch (show (none : Option (ClassId × FieldType)) = some q from hq)
  clear hD1 hD2 k0 k1 k2 k3 k4 k5
  rw [lg_entry_eq]
  obtain ⟨B, hB⟩ : ∃ B, B = s.heap.size := ⟨_, rfl⟩
  have hbA : ¬ B ≤ b := by omega
  have Co : Cno "TelescopeDesk$Term" (mkE l D cI cT) "TelescopeDeskLaw" b_Law_law 4 8 600000 7302250 meth.name (fun q => B ≤ q) (fun G sz n1 n2 => jw p e room_1 s m #[Value.ref b] below meth c (mkE l D cI cT) G (fun q => B ≤ q) sz n1 n2 4 (lw_Z below #[Value.ref b] s)) := ⟨p, e, room_1, s, m, #[Value.ref b], below, meth, c, _, ⟨hx, hb, hml, hown, htA⟩, hK, (fun w hw => absurd hw List.not_mem_nil), ⟨Nat.le_of_ble_eq_true rfl, Nat.le_of_ble_eq_true rfl, Nat.le_of_ble_eq_true rfl, Nat.le_of_ble_eq_true rfl⟩, eok l D cI cT, (fun q h => Nat.le_trans (Nat.le_of_eq hB) h), rfl, hAO, rfl⟩
  have C := Co.cn
  obtain ⟨J, hJ⟩ : ∃ J : Gm → Nat → Nat → Nat → Jt, J = (fun G sz n1 n2 => jw p e room_1 s m #[Value.ref b] below meth c (mkE l D cI cT) G (fun q => B ≤ q) sz n1 n2 4 (lw_Z below #[Value.ref b] s)) := ⟨_, rfl⟩
  rw [← hJ] at Co C
  have go : J (fun _ => none) B 0 0 ((fun _ _ => 0), fun _ => 0) 0 [some (.ref b), none, none, none] [] := by
    have ret : ∀ (S : Sg) (L : List (Option Value)), J (mG9 (B + 58) (eGf cT B (fun _ => none))) (B + 68) 68 1669 S 770 L [] := by
      intro S L
      have hG : ∀ q, dG (mG9 (B + 58) (eGf cT B (fun _ => none))) q → B ≤ q := by
        intro q hq
        refine Nat.le_of_not_lt (fun h => hq ?_)
        rw [mG_n (by omega), eGf_n (by omega)]
      have X := C.cx (sz := B + 68) (n1 := 68) (n2 := 1669) hG (by omega) (by omega)
      refine r_iconst X (x := 1) d_Law_law_770 (by decide) ?_
      rw [hJ]
      intro H locs ls hP hz hS hll
      refine va_forget (fun q hq => by rw [← hB]; exact hS.2.2 q hq) ?_
      refine W.widen (k := 600000) (n := 7302250) (by omega) (by omega) ?_
      exact lw_ret hx hb hr hlk d_Law_law_771
    have A0 : ∀ q, dG (fun _ => none) q → B ≤ q := fun q h => absurd rfl h
    refine cn_new C (F := fun _ => [.null, .null, .null, .null, .null]) (x0 := 0) ln_Law_7 (by omega) (by omega) d_Law_law_0 ?_
    have A1 := dG_up (a := B) (x := some kD0) A0 (Nat.le_refl B)
    have X := C.cx (sz := B + 1) (n1 := 0 + 1) (n2 := 0 + 5) A1 (by omega) (by omega)
    refine r_dup X d_Law_law_3 (by rfl) ?_
    refine cno_call Co (As := []) (rest := [.ref B]) (b := B) li_Law_9 (n_desk (B := B) (G := fun _ => none) (S := ((fun _ _ => 0), fun _ => 0))) A1 (fun q h => (by omega : B ≤ q)) (by decide) rfl (by omega) (by omega) (Nat.le_of_ble_eq_true rfl) d_Law_law_4 rfl ?_
    have A2 : ∀ q, dG (eGf cT B (fun _ => none)) q → B ≤ q := by
      intro q hq
      refine Nat.le_of_not_lt (fun h => hq ?_)
      rw [eGf_n (by omega)]
    show J (eGf cT B (fun _ => none)) (B + 58) 58 913 (eSf B ((fun _ _ => 0), fun _ => 0)) 7 _ _
    have X := C.cx (sz := B + 58) (n1 := 58) (n2 := 913) A2 (by omega) (by omega)
    refine r_astore_n X d_Law_law_7 (by decide) ?_
    refine cn_new C (F := fun v => [.null, .null, .null, .null, .null, .int v, .null, .null, .null, .null]) (x0 := 0) ln_Law_10 (by omega) (by omega) d_Law_law_8 ?_
    show J (mG0 (B + 58) (eGf cT B (fun _ => none))) (B + 58 + 1) 59 923 (mS0 (B + 58) (eSf B ((fun _ _ => 0), fun _ => 0))) 11 _ _
    have A3 : ∀ q, dG (mG0 (B + 58) (eGf cT B (fun _ => none))) q → B ≤ q := dG_up A2 (by omega)
    have X := C.cx (sz := B + 58 + 1) (n1 := 59) (n2 := 923) A3 (by omega) (by omega)
    refine r_dup X d_Law_law_11 (by rfl) ?_
    refine cn_call C (As := []) (rest := [.ref (B + 58)]) (b := B + 58) li_Law_12 (n_model (m := B + 58) (G := eGf cT B (fun _ => none)) (S := eSf B ((fun _ _ => 0), fun _ => 0))) A3 (fun q h => (by omega : B ≤ q)) (by decide) rfl (by omega) (by omega) (Nat.le_of_ble_eq_true rfl) d_Law_law_12 rfl ?_
    show J (mG9 (B + 58) (eGf cT B (fun _ => none))) (B + 68) 68 1669 (mSf (B + 58) (eSf B ((fun _ _ => 0), fun _ => 0))) 15 _ _
    have A4 : ∀ q, dG (mG9 (B + 58) (eGf cT B (fun _ => none))) q → B ≤ q := by
      intro q hq
      refine Nat.le_of_not_lt (fun h => hq ?_)
      rw [mG_n (by omega), eGf_n (by omega)]
    have hDs : isD (mG9 (B + 58) (eGf cT B (fun _ => none))) cT B := eGf_is.cg (fun a h1 h2 => mG_n (by omega))
    have hMs : isM (mG9 (B + 58) (eGf cT B (fun _ => none))) (B + 58) := mG_is
    have hR0 : Rep (mSf (B + 58) (eSf B ((fun _ _ => 0), fun _ => 0))) B V0 := by
      intro k hk
      have ho : Out (eSf B ((fun _ _ => 0), fun _ => 0)) (mSf (B + 58) (eSf B ((fun _ _ => 0), fun _ => 0))) (B + 58) 10 := fun a ha => mS_o ha
      exact (eSf_rep k hk).out ho (by omega)
    have hI0 : MI (mSf (B + 58) (eSf B ((fun _ _ => 0), fun _ => 0))) (B + 58) V0 := mSf_rep
    have X := C.cx (sz := B + 68) (n1 := 68) (n2 := 1669) A4 (by omega) (by omega)
    refine r_astore_n X d_Law_law_15 (by decide) ?_
    refine r_iconst X (x := (nI 0)) d_Law_law_16 (by decide) ?_
    refine r_istore_n X d_Law_law_17 (by decide) ?_
    rw [hJ] at X ret ⊢
    exact law_loop hx hb hX hbl hbA (by omega) X hDs hMs (by omega) ret (L + 4) 0 _ _ (by omega) V0_ok hR0 hI0
  rw [hJ] at go
  exact go s.heap [] _ (fun a e' h => nomatch (show (none : Option va_E) = some e' from h)) hB.symm (va_S.rf) (lo_entry (by simp [Value.category]) (Nat.le_of_ble_eq_true rfl))
set_option maxHeartbeats 4000000 in
theorem lw_walk (l : Launch) (b : Addr) (xs : List Int32) : MetFree l x (headSpec (Jvm.Cond.code x code maxLocals ret :: tables_1) room_1) (lw_P b xs) (fun _ _ _ _ _ => True) lw_Q := by
  refine MetFree.of_bodyS (code := code) (maxLocals := maxLocals) (ret := ret) (by decide) ?_ ?_
  · intro args s m h hn
    obtain ⟨meth, c, h1, h2, h3, h4, h5, h6, -, -⟩ := Cond.code_spec hn (atoms_spec (ws := Jvm.Cond.code x code maxLocals ret :: tables_1) h _ List.mem_cons_self)
    exact ⟨meth, c, h1, h2, h3, h4, h5, h6⟩
  · intro p e s m args below meth c s₁ B hml0 hP _
    obtain ⟨rfl, hx, hbd, hgv⟩ := hP
    obtain ⟨scr, harrAt, hlist, hof, hsmall⟩ := hx
    obtain ⟨hcb, hkn, -, -⟩ := State.arrayAt?_spec harrAt
    have hown : s.vm.findClass R_law = some m.cls := findClass_of_methodNamed B.named
    have hts0 : ∀ c ∈ (Jvm.Cond.code x code maxLocals ret :: tables_1), c.before #[Value.ref b] s = true := atoms_spec (ws := Jvm.Cond.code x code maxLocals ret :: tables_1) B.pre
    have hts : ∀ w ∈ lw_tbl, w.before #[Value.ref b] s = true := k2_hts_sels lw_privs (fun w hw => hts0 w (List.mem_cons_of_mem _ hw)) lw_privs_ok
    have hml : c.maxLocals = 4 := B.maxLocals_eq (hts0 _ List.mem_cons_self)
    have X₀ : Stand p l e room_1 s m #[Value.ref b] below meth c s₁ [] 0 0 := Stand.of_body B
    have hh0 : s₁.heap = s.heap := by rw [B.state]; rfl
    have hsz : scr.slots.size = xs.length := by rw [← Array.length_toList, hlist, List.length_map]
    have hval : ∀ j : Nat, j < xs.length → scr.slots[j]? = some (.int (xs.getD j 0)) := fun j hj => by
      rw [← Array.getElem?_toList, hlist]
      simp [hj]
    have hbl : b < s.heap.size := (Array.getElem?_eq_some_iff.mp hcb).1
    have hX : va_X b xs.length (fun j => xs.getD j 0) s s.heap := ⟨scr, hcb, hof, hkn, hsz, hval⟩
    have K : W p l e room_1 s m #[Value.ref b] below meth c s₁.heap [] 0 0 (lw_Z below #[Value.ref b] s) (entryFrame m ([Value.ref b] : List Value).toArray 4) := by
      rw [hh0]
      exact whole_start l hbd ⟨B.exec, B.bytes, B.returns, hml, hown, hts, hX, hbl, B.notSynchronized, hgv⟩
    obtain ⟨t, a1, o, b1, b2, b3⟩ := K s₁ rfl X₀
    exact ⟨t, o, a1, b1, b2, b3⟩
theorem lw_pre_spec {args : Array Value} {s : State} (h : (Jvm.Cond.and given_1 narrow_1).before args s = true) (hr : rest_1_c.before args s = true) : ∃ (b : Addr) (xs : List Int32), lw_P b xs args s := by
  have hs := flat_of_before _ h
  have hq := flat_of_before _ hr
  have hc : (Cond.count 1).before args s = true := hs _ (by decide +kernel)
  have harr : (Cond.arrayOf (.arg 0) .int).before args s = true := hs _ (by decide +kernel)
  have hle : (Cond.le (.length (.arg 0)) (.int 2048)).before args s = true := hs _ (by decide +kernel)
  have hlen : (Cond.isInt (.length (.arg 0))).before args s = true := hq _ (by decide +kernel)
  have hall : (Cond.all (.arg 0) (.isInt (.elem (.arg 0) (.index 0)))).before args s = true := hq _ (by decide +kernel)
  obtain ⟨b, xs, hb, hx⟩ := State.ints_of_pre rfl harr hlen hall
  have hsm : xs.length < 2 ^ 31 := hx.choose_spec.2.2.2
  have hev : (Term.length (.arg 0)).eval args s none [] s = some (.int xs.length.toInt32) := hx.length_eval hb
  have hv := Cond.le_ints hev (show (Term.int 2048).eval args s none [] s = some (.int 2048) from rfl)
  have hd : xs.length.toInt32 ≤ 2048 := by
    simpa [Cond.before, Cond.holds, hv] using hle
  have hN : xs.length ≤ 2048 := (Int32.ofNat_le_ofNat hsm (by decide)).mp (show Int32.ofNat xs.length ≤ Int32.ofNat 2048 from hd)
  exact ⟨b, xs, Cond.one_arg hc (show args[0]? = some (.ref b) from hb), hx, hN, h⟩
theorem lw_comes (l : Launch) : Comes l x (Jvm.Cond.code x code maxLocals ret :: tables_1) room_1 (fun tb e args s => Calls_1 tb e args s ∧ rest_1 tb e args s ∧ Pre_1 tb e args s)
    (fun _ _ args s o t => lw_Q args s o t) := by
  intro p e ha hc hk s m args below hf hfit hheap happ hpre
  obtain ⟨b, xs, hP⟩ := lw_pre_spec hpre.2.2 hpre.2.1
  obtain ⟨k, o, h1, h2, h3, hQ⟩ := lw_walk l b xs p e ha hc hk s m args below hf ((Spec.applies_iff_loose hf).mp happ).1 hP trivial
  exact ⟨k, o, h1, h2, h3, hQ⟩
theorem lw_frame {s t : State} {o : Outcome} {args : Array Value} (h : Framed s o t [] 600000 7302250) :
    Framed s o t (fieldLocs frame_1_writes args s ++ arrayLocs frame_1_arrays args s ++ staticLocs frame_1_statics s) 600000 7302250 := h
theorem lw_limb (L : Cond) (hL : ∀ (args : Array Value) (s t : State), L.after args s (.returned (some (.int 1))) t = true) :
    ArmFor flags0 classFile x code maxLocals ret World_1 tables_1 room_1 Calls_1 rest_1 Pre_1
      (fun tb e a s o t => postC L tb e a s o t ∧ Framed s o t (fieldLocs frame_1_writes a s ++ arrayLocs frame_1_arrays a s ++ staticLocs frame_1_statics s) 600000 7302250) := by
  intro l _ _ _ p e ha hc hk s m args below hf hfit hheap happ hpre
  obtain ⟨k, o, h1, h2, h3, rfl, hF⟩ := lw_comes l p e ha hc hk s m args below hf hfit hheap happ hpre
  exact ⟨k, _, h1, h2, h3, hL args s _, lw_frame hF⟩
theorem i_vc : Claimed_1_1 ∧ Claimed_1_2 := ⟨lw_limb limb_1_1 (fun args s t => by simp [limb_1_1, Cond.after, Cond.holds, Cond.value]), lw_limb limb_1_2 (fun args s t => Cond.after_iff.mpr (by
  first | (rw [show limb_1_2 = Cond.eq .result (.int 1) from rfl, Cond.eq_ints (x := 1) (y := 1) rfl rfl]; simp; done) | (simp [limb_1_2, Cond.value, Term.eval]; done)))⟩
