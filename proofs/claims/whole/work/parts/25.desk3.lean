section D3
variable {l : Launch} {D : va_G} {cI cT : ClassId} {G : Gm} {S : Sg}
theorem va_ok {n j c : Nat} {X : Nat → Nat} (h : okP n X) (hj : j < n) (hc : c < 10007) : okP n (va_up X j c) := by
  refine ⟨fun k => ?_, fun k hk => ?_⟩
  · unfold va_up
    split
    · exact hc
    · exact h.1 k
  · rw [va_up_n (by omega)]
    exact h.2 k hk
theorem swh_gen {z : Nat} : ∀ (i : Nat) {R X : Nat → Nat}, i ≤ 32 → okP 64 X → okP 64 (swh z i R X) := by
  intro i
  induction i with
  | zero => intro R X _ h; exact h
  | succ i ih =>
    intro R X hi h
    exact ih (by omega) (va_ok h (by unfold pj; split <;> omega) (Nat.mod_lt _ (by decide)))
theorem qdv_tp {e N : Nat → Nat} (hN : okP 32 N) : tp (qdv e 8 N) 64 ≤ 32 := by
  rw [show (64 : Nat) = 32 + 32 by rfl, tp_more 32 (qdv_32 (e := e) hN 8).2]
  exact tp_le _ _
theorem swh_ok {z : Nat} {e N : Nat → Nat} (hN : okP 32 N) (_ : 0 < z) (_ : z < 10007) : okP 64 (swh z (tp (qdv e 8 N) 64) (qdv e 8 N) (fun _ => 0)) := swh_gen _ (qdv_tp hN) (zero_ok 64)
abbrev Tt : Type := (Nat → Nat) × ((Nat → Nat) × Nat)
def telT (T : Tt) : Tt := (nrN 64 (spN T.2.2 T.2.1 T.1) (gE (spP T.2.2 T.2.1 T.1)), (nrE 64 (spN T.2.2 T.2.1 T.1) (gE (spP T.2.2 T.2.1 T.1)), nrZ 64 (spN T.2.2 T.2.1 T.1) T.2.2))
def remT (T : Tt) : Tt := (nrN 64 (spR T.2.2 T.2.1 T.1) e30, (nrE 64 (spR T.2.2 T.2.1 T.1) e30, nrZ 64 (spR T.2.2 T.2.1 T.1) T.2.2))
theorem telT_ok {T : Tt} (h : wfT T) : okP 64 (telT T).1 ∧ okE (telT T).2.1 := by
  unfold telT
  dsimp only
  refine nrN_ok ?_ (gE_ok _)
  unfold spN gth
  refine gb_ok (wd_ok ?_ 8) 8
  unfold whl
  exact swh_ok h.1 h.2.2.2.1 h.2.2.2.2
theorem remT_ok (T : Tt) : okP 64 (remT T).1 ∧ okE (remT T).2.1 := by
  unfold remT
  dsimp only
  refine nrN_ok ?_ e30_ok
  unfold spR
  exact rmw_ok _ _
def O_tel (V : Vt) (d r a : Int32) (x : Int32) (V' : Vt) : Prop := (¬ (sl d ∧ sl r ∧ sl a ∧ d ≠ r) ∧ x = -9 ∧ V' = V) ∨ ∃ k j i, k < 8 ∧ j < 8 ∧ i < 8 ∧ k ≠ j ∧ d = nI k ∧ r = nI j ∧ a = nI i ∧ ((ovr 64 (telT (V i)).1 (telT (V i)).2.1 ∧ x = -7 ∧ V' = V) ∨ (¬ ovr 64 (telT (V i)).1 (telT (V i)).2.1 ∧ ((x = nI 1 ∧ tp (remT (V i)).1 64 = 0) ∨ (x = nI 0 ∧ 0 < tp (remT (V i)).1 64)) ∧ V' = va_up (va_up V k (telT (V i))) j (cut 32 (remT (V i)).1, ((remT (V i)).2.1, (remT (V i)).2.2))))
set_option maxHeartbeats 1000000 in
set_option maxRecDepth 100000 in
theorem c_telescope {B : Nat} {d r a : Int32} {V : Vt} (hd : isD G cT B) (hV : Rep S B V) (hw : wfV V) : CT (mkE l D cI cT) G y_Desk_telescope b_Desk_telescope 4 (some .int) 6 [.ref B, .int d, .int r, .int a] S (Pi (fun S' x => ∃ V', O_tel V d r a x V' ∧ Rep S' B V' ∧ exD B S S')) := by
  have hd0 := hd
  obtain ⟨hB, hA, hsl, hres, hrem, hC, hSp⟩ := hd
  have hSS := hSp.1
  have hrT := hres.1
  have hmT := hrem.1
  refine mk_i (by decide) (eok l D cI cT) (by simp [Value.category]) (Nat.le_of_ble_eq_true rfl) (fun J X hR => ?_)
  show J S 0 [some (.ref B), some (.int d), some (.int r), some (.int a)] []
  have hbad : ¬ (sl d ∧ sl r ∧ sl a ∧ d ≠ r) → J S 26 [some (.ref B), some (.int d), some (.int r), some (.int a)] [] := by
    intro h
    refine r_bipush X (x := (-9)) d_Desk_telescope_26 (by decide) ?_
    exact hR _ _ _ _ d_Desk_telescope_28 rfl ⟨_, rfl, V, Or.inl ⟨h, rfl, rfl⟩, hV, Ex.rf _ _⟩
  refine r_iload_n X d_Desk_telescope_0 (by rfl) ?_
  refine r_cSi X ls_Desk_39 c_isSlot (by decide) rfl (Nat.le_of_ble_eq_true rfl) d_Desk_telescope_1 rfl (fun Sx rx hx => ?_)
  obtain ⟨hxs, hx⟩ := hx
  replace hxs := hxs.symm
  subst hxs
  rcases hx with ⟨rfl, g1⟩ | ⟨rfl, g1⟩
  rotate_left
  · refine r_if_eqN X d_Desk_telescope_4 (tgt := 26) (by decide) (by omega) (fun _ => ?_) (fun hc => absurd rfl hc)
    exact hbad (fun h => g1 h.1)
  refine r_if_eqN X d_Desk_telescope_4 (tgt := 26) (by decide) (by omega) (fun hc => absurd hc (by decide)) (fun _ => ?_)
  refine r_iload_n X d_Desk_telescope_7 (by rfl) ?_
  refine r_cSi X ls_Desk_39 c_isSlot (by decide) rfl (Nat.le_of_ble_eq_true rfl) d_Desk_telescope_8 rfl (fun Sx rx hx => ?_)
  obtain ⟨hxs, hx⟩ := hx
  replace hxs := hxs.symm
  subst hxs
  rcases hx with ⟨rfl, g2⟩ | ⟨rfl, g2⟩
  rotate_left
  · refine r_if_eqN X d_Desk_telescope_11 (tgt := 26) (by decide) (by omega) (fun _ => ?_) (fun hc => absurd rfl hc)
    exact hbad (fun h => g2 h.2.1)
  refine r_if_eqN X d_Desk_telescope_11 (tgt := 26) (by decide) (by omega) (fun hc => absurd hc (by decide)) (fun _ => ?_)
  refine r_iload_n X d_Desk_telescope_14 (by rfl) ?_
  refine r_cSi X ls_Desk_39 c_isSlot (by decide) rfl (Nat.le_of_ble_eq_true rfl) d_Desk_telescope_15 rfl (fun Sx rx hx => ?_)
  obtain ⟨hxs, hx⟩ := hx
  replace hxs := hxs.symm
  subst hxs
  rcases hx with ⟨rfl, g3⟩ | ⟨rfl, g3⟩
  rotate_left
  · refine r_if_eqN X d_Desk_telescope_18 (tgt := 26) (by decide) (by omega) (fun _ => ?_) (fun hc => absurd rfl hc)
    exact hbad (fun h => g3 h.2.2.1)
  refine r_if_eqN X d_Desk_telescope_18 (tgt := 26) (by decide) (by omega) (fun hc => absurd hc (by decide)) (fun _ => ?_)
  refine r_iload_n X d_Desk_telescope_21 (by rfl) ?_
  refine r_iload_n X d_Desk_telescope_22 (by rfl) ?_
  refine r_icmp_ne X d_Desk_telescope_23 (tgt := 29) (by decide) (fun g4 => ?_) (fun g4 => hbad (fun h => h.2.2.2 g4))
  obtain ⟨k, hk, rfl⟩ := g1
  obtain ⟨j, hj, rfl⟩ := g2
  obtain ⟨i, hi, rfl⟩ := g3
  have hkj : k ≠ j := fun z => g4 (by rw [z])
  have hkT := (hsl k hk).1
  have hjT := (hsl j hj).1
  have wi := hw i hi
  refine r_aload_n X d_Desk_telescope_29 (by rfl) ?_
  refine r_get X lf_Desk_35 d_Desk_telescope_30 (by assumption) (by rfl) ?_
  refine r_aload_n X d_Desk_telescope_33 (by rfl) ?_
  refine r_get X lf_Desk_11 d_Desk_telescope_34 (by assumption) (by rfl) ?_
  refine r_iload_n X d_Desk_telescope_37 (by rfl) ?_
  refine r_aald X d_Desk_telescope_38 (by assumption) rfl (by omega) (by omega) (slf_at (by omega)) ?_
  refine r_aload_n X d_Desk_telescope_39 (by rfl) ?_
  refine r_get X lf_Desk_18 d_Desk_telescope_40 (by assumption) (by rfl) ?_
  refine r_aload_n X d_Desk_telescope_43 (by rfl) ?_
  refine r_get X lf_Desk_22 d_Desk_telescope_44 (by assumption) (by rfl) ?_
  refine r_cVv X lv_Desk_96 (c_split hSp (hsl i hi) hres hrem (by omega) (by omega) (by omega) wi.1 (by omega) wi.e wi.2.2.2.1 wi.2.2.2.2 (hV i hi)) (by assumption) (by decide) rfl (Nat.le_of_ble_eq_true rfl) d_Desk_telescope_47 rfl (fun S1 h1 => ?_)
  obtain ⟨h1, h1r, hx1⟩ := h1
  have hV1 := hV.ex hx1 (fun a h1 h2 => by omega)
  have okt := telT_ok wi
  have okr := remT_ok (V i)
  have h1 : tIs S1 (B + 34) 64 (telT (V i)).1 (telT (V i)).2.1 (telT (V i)).2.2 := by
    unfold telT
    dsimp only
    exact h1
  have h1r : tIs S1 (B + 38) 64 (remT (V i)).1 (remT (V i)).2.1 (remT (V i)).2.2 := by
    unfold remT
    dsimp only
    exact h1r
  refine r_aload_n X d_Desk_telescope_50 (by rfl) ?_
  refine r_get X lf_Desk_18 d_Desk_telescope_51 (by assumption) (by rfl) ?_
  refine r_cVi X lv_Desk_100 (c_isOver hres okt.2 h1) (by assumption) (by decide) rfl (Nat.le_of_ble_eq_true rfl) d_Desk_telescope_54 rfl (fun S2 x h2 => ?_)
  obtain ⟨rfl, ⟨rfl, h2⟩ | ⟨rfl, h2⟩⟩ := h2
  · refine r_if_eqN X d_Desk_telescope_57 (tgt := 63) (by decide) (by omega) (fun hc => ?_) (fun hc => ?_)
    · omega
    · refine r_bipush X (x := (-7)) d_Desk_telescope_60 (by decide) ?_
      exact hR _ _ _ _ d_Desk_telescope_62 rfl ⟨_, rfl, V, Or.inr ⟨k, j, i, hk, hj, hi, hkj, rfl, rfl, rfl, Or.inl ⟨h2, rfl, rfl⟩⟩, hV1, hx1.mono (fun a h => by omega)⟩
  · refine r_if_eqN X d_Desk_telescope_57 (tgt := 63) (by decide) (by omega) (fun hc => ?_) (fun hc => ?_)
    · refine r_aload_n X d_Desk_telescope_63 (by rfl) ?_
      refine r_get X lf_Desk_11 d_Desk_telescope_64 (by assumption) (by rfl) ?_
      refine r_iload_n X d_Desk_telescope_67 (by rfl) ?_
      refine r_aald X d_Desk_telescope_68 (by assumption) rfl (by omega) (by omega) (slf_at (by omega)) ?_
      refine r_aload_n X d_Desk_telescope_69 (by rfl) ?_
      refine r_get X lf_Desk_18 d_Desk_telescope_70 (by assumption) (by rfl) ?_
      refine r_cVv X lv_Desk_103 (c_tcopy (hsl k hk) hres (by omega) okt.1 okt.2 h1) (by assumption) (by decide) rfl (Nat.le_of_ble_eq_true rfl) d_Desk_telescope_73 rfl (fun S3 h3 => ?_)
      obtain ⟨h3, ho3⟩ := h3
      have h3r := h1r.out ho3 (by omega)
      have hcut : cut 32 (telT (V i)).1 = (telT (V i)).1 := cut_id (fun q hq => by
        refine okt.1.tz ?_
        by_cases h : 32 < tp (telT (V i)).1 64
        · exact absurd (Or.inr (Or.inl h)) h2
        · omega)
      rw [hcut] at h3
      refine r_aload_n X d_Desk_telescope_76 (by rfl) ?_
      refine r_get X lf_Desk_11 d_Desk_telescope_77 (by assumption) (by rfl) ?_
      refine r_iload_n X d_Desk_telescope_80 (by rfl) ?_
      refine r_aald X d_Desk_telescope_81 (by assumption) rfl (by omega) (by omega) (slf_at (by omega)) ?_
      refine r_aload_n X d_Desk_telescope_82 (by rfl) ?_
      refine r_get X lf_Desk_22 d_Desk_telescope_83 (by assumption) (by rfl) ?_
      refine r_cVv X lv_Desk_103 (c_tcopy (hsl j hj) hrem (by omega) okr.1 okr.2 h3r) (by assumption) (by decide) rfl (Nat.le_of_ble_eq_true rfl) d_Desk_telescope_86 rfl (fun S4 h4 => ?_)
      obtain ⟨h4, ho4⟩ := h4
      have h4r := h3r.out ho4 (by omega)
      have hV4 : Rep S4 B (va_up (va_up V k (telT (V i))) j (cut 32 (remT (V i)).1, ((remT (V i)).2.1, (remT (V i)).2.2))) := by
        intro q hq
        by_cases hqj : q = j
        · subst hqj
          rw [va_up_s]
          dsimp only
          exact h4
        · rw [va_up_n hqj]
          by_cases hqk : q = k
          · subst hqk
            rw [va_up_s]
            exact h3.out ho4 (by omega)
          · rw [va_up_n hqk]
            exact ((hV1 q hq).out ho3 (by omega)).out ho4 (by omega)
      have hx4 : exD B S S4 := ((hx1.mono (fun a h => by omega)).trans (ho3.ex (fun a h1 h2 => by omega))).trans (ho4.ex (fun a h1 h2 => by omega))
      refine r_aload_n X d_Desk_telescope_89 (by rfl) ?_
      refine r_get X lf_Desk_22 d_Desk_telescope_90 (by assumption) (by rfl) ?_
      refine r_cVi X lv_Desk_77 (c_isZero hrem h4r) (by assumption) (by decide) rfl (Nat.le_of_ble_eq_true rfl) d_Desk_telescope_93 rfl (fun S5 x h5 => ?_)
      obtain ⟨rfl, ⟨rfl, h5⟩ | ⟨rfl, h5⟩⟩ := h5
      · refine r_if_eqN X d_Desk_telescope_96 (tgt := 103) (by decide) (by omega) (fun hc => ?_) (fun hc => ?_)
        · omega
        · refine r_iconst X (x := (nI 1)) d_Desk_telescope_99 (by decide) ?_
          refine r_goto X d_Desk_telescope_100 (tgt := 104) (by decide) ?_
          exact hR _ _ _ _ d_Desk_telescope_104 rfl ⟨_, rfl, _, Or.inr ⟨k, j, i, hk, hj, hi, hkj, rfl, rfl, rfl, Or.inr ⟨h2, Or.inl ⟨rfl, h5⟩, rfl⟩⟩, hV4, hx4⟩
      · refine r_if_eqN X d_Desk_telescope_96 (tgt := 103) (by decide) (by omega) (fun hc => ?_) (fun hc => ?_)
        · refine r_iconst X (x := (nI 0)) d_Desk_telescope_103 (by decide) ?_
          exact hR _ _ _ _ d_Desk_telescope_104 rfl ⟨_, rfl, _, Or.inr ⟨k, j, i, hk, hj, hi, hkj, rfl, rfl, rfl, Or.inr ⟨h2, Or.inr ⟨rfl, h5⟩, rfl⟩⟩, hV4, hx4⟩
        · omega
    · omega
def chkP (T U : Tt) : Prop := ¬ ovr 64 (nrN 64 (difN T) (difE T)) (nrE 64 (difN T) (difE T)) ∧ nrN 64 (difN T) (difE T) = U.1 ∧ nrE 64 (difN T) (difE T) = U.2.1 ∧ nrZ 64 (difN T) T.2.2 = U.2.2
def O_chk (V : Vt) (d a : Int32) (r : Int32) : Prop := (¬ (sl d ∧ sl a) ∧ r = nI 0) ∨ ∃ k x, k < 8 ∧ x < 8 ∧ d = nI k ∧ a = nI x ∧ ((r = nI 1 ∧ chkP (V k) (V x)) ∨ (r = nI 0 ∧ ¬ chkP (V k) (V x)))
set_option maxHeartbeats 4000000 in
set_option maxRecDepth 100000 in
theorem c_check {B : Nat} {d a : Int32} {V : Vt} (hd : isD G cT B) (hV : Rep S B V) (hw : wfV V) : CT (mkE l D cI cT) G y_Desk_check b_Desk_check 3 (some .boolean) 6 [.ref B, .int d, .int a] S (Pi (fun S' r => O_chk V d a r ∧ Rep S' B V ∧ exD B S S')) := by
  have hd0 := hd
  obtain ⟨hB, hA, hsl, hres, hrem, hC, hSp⟩ := hd
  have hCC := hC.1
  have hrT := hres.1
  refine mk_i (by decide) (eok l D cI cT) (by simp [Value.category]) (Nat.le_of_ble_eq_true rfl) (fun J X hR => ?_)
  show J S 0 [some (.ref B), some (.int d), some (.int a)] []
  have hbad : ¬ (sl d ∧ sl a) → J S 14 [some (.ref B), some (.int d), some (.int a)] [] := by
    intro h
    refine r_iconst X (x := (nI 0)) d_Desk_check_14 (by decide) ?_
    exact hR _ _ _ _ d_Desk_check_15 (by decide) ⟨_, rfl, Or.inl ⟨h, rfl⟩, hV, Ex.rf _ _⟩
  refine r_iload_n X d_Desk_check_0 (by rfl) ?_
  refine r_cSi X ls_Desk_39 c_isSlot (by decide) rfl (Nat.le_of_ble_eq_true rfl) d_Desk_check_1 rfl (fun Sx rx hx => ?_)
  obtain ⟨hxs, hx⟩ := hx
  replace hxs := hxs.symm
  subst hxs
  rcases hx with ⟨rfl, g1⟩ | ⟨rfl, g1⟩
  rotate_left
  · refine r_if_eqN X d_Desk_check_4 (tgt := 14) (by decide) (by omega) (fun _ => ?_) (fun hc => absurd rfl hc)
    exact hbad (fun h => g1 h.1)
  refine r_if_eqN X d_Desk_check_4 (tgt := 14) (by decide) (by omega) (fun hc => absurd hc (by decide)) (fun _ => ?_)
  refine r_iload_n X d_Desk_check_7 (by rfl) ?_
  refine r_cSi X ls_Desk_39 c_isSlot (by decide) rfl (Nat.le_of_ble_eq_true rfl) d_Desk_check_8 rfl (fun Sx rx hx => ?_)
  obtain ⟨hxs, hx⟩ := hx
  replace hxs := hxs.symm
  subst hxs
  rcases hx with ⟨rfl, g2⟩ | ⟨rfl, g2⟩
  rotate_left
  · refine r_if_neN X d_Desk_check_11 (tgt := 16) (by decide) (by omega) (fun hc => absurd rfl hc) (fun _ => ?_)
    exact hbad (fun h => g2 h.2)
  refine r_if_neN X d_Desk_check_11 (tgt := 16) (by decide) (by omega) (fun _ => ?_) (fun hc => absurd hc (by decide))
  obtain ⟨k, hk, rfl⟩ := g1
  obtain ⟨x, hx, rfl⟩ := g2
  have wk := hw k hk
  have wx := hw x hx
  refine r_aload_n X d_Desk_check_16 (by rfl) ?_
  refine r_get X lf_Desk_28 d_Desk_check_17 (by assumption) (by rfl) ?_
  refine r_aload_n X d_Desk_check_20 (by rfl) ?_
  refine r_get X lf_Desk_18 d_Desk_check_21 (by assumption) (by rfl) ?_
  refine r_aload_n X d_Desk_check_24 (by rfl) ?_
  refine r_get X lf_Desk_11 d_Desk_check_25 (by assumption) (by rfl) ?_
  refine r_iload_n X d_Desk_check_28 (by rfl) ?_
  refine r_aald X d_Desk_check_29 (by assumption) rfl (by omega) (by omega) (slf_at (by omega)) ?_
  refine r_cVv X lv_Desk_93 (c_sub hC hres (hsl k hk) (by omega) (by omega) (by omega) (by omega) (by omega) wk.1 wk.e wk.2.2.2.2 (hV k hk)) (by assumption) (by decide) rfl (Nat.le_of_ble_eq_true rfl) d_Desk_check_30 rfl (fun S2 h2 => ?_)
  obtain ⟨h2, hx2⟩ := h2
  have h2 : tIs S2 (B + 34) 64 (nrN 64 (difN (V k)) (difE (V k))) (nrE 64 (difN (V k)) (difE (V k))) (nrZ 64 (difN (V k)) (V k).2.2) := h2
  have hok := nrN_ok (ads_ok 64 10006 (wd 64 (fun i => max (sh1 (V k).2.1 i) ((V k).2.1 i) - sh1 (V k).2.1 i) 9 (cut 64 (nxt 64 (V k).2.2 (V k).1))) (wd 64 (fun i => max (sh1 (V k).2.1 i) ((V k).2.1 i) - (V k).2.1 i) 9 (cut 64 (V k).1))) (mxE_ok (sh1_ok wk.e) wk.e)
  have hok : okP 64 (nrN 64 (difN (V k)) (difE (V k))) ∧ okE (nrE 64 (difN (V k)) (difE (V k))) := hok
  have hV2 := hV.ex hx2 (fun a h1 h2 => by omega)
  have hxx : exD B S S2 := hx2.mono (fun a h => by omega)
  have hz2 : nrZ 64 (difN (V k)) (V k).2.2 < 10007 := by unfold nrZ; split; decide; exact wk.2.2.2.2
  have no : ∀ S3, S3 = S2 → ¬ chkP (V k) (V x) → J S3 63 [some (.ref B), some (.int (nI k)), some (.int (nI x))] [] := by
    intro S3 e h
    subst e
    refine r_iconst X (x := (nI 0)) d_Desk_check_63 (by decide) ?_
    exact hR _ _ _ _ d_Desk_check_64 (by decide) ⟨_, rfl, Or.inr ⟨k, x, hk, hx, rfl, rfl, Or.inr ⟨rfl, h⟩⟩, hV2, hxx⟩
  refine r_aload_n X d_Desk_check_33 (by rfl) ?_
  refine r_get X lf_Desk_18 d_Desk_check_34 (by assumption) (by rfl) ?_
  refine r_cVi X lv_Desk_100 (c_isOver hres hok.2 h2) (by assumption) (by decide) rfl (Nat.le_of_ble_eq_true rfl) d_Desk_check_37 rfl (fun S3 r h3 => ?_)
  obtain ⟨e3, ⟨rfl, h3⟩ | ⟨rfl, h3⟩⟩ := h3
  · refine r_if_neN X d_Desk_check_40 (tgt := 63) (by decide) (by omega) (fun hc => ?_) (fun hc => ?_)
    · exact no S3 e3 (fun h => h.1 h3)
    · omega
  · subst e3
    refine r_if_neN X d_Desk_check_40 (tgt := 63) (by decide) (by omega) (fun hc => ?_) (fun hc => ?_)
    · omega
    · refine r_aload_n X d_Desk_check_43 (by rfl) ?_
      refine r_get X lf_Desk_18 d_Desk_check_44 (by assumption) (by rfl) ?_
      refine r_aload_n X d_Desk_check_47 (by rfl) ?_
      refine r_get X lf_Desk_11 d_Desk_check_48 (by assumption) (by rfl) ?_
      refine r_iload_n X d_Desk_check_51 (by rfl) ?_
      refine r_aald X d_Desk_check_52 (by assumption) rfl (by omega) (by omega) (slf_at (by omega)) ?_
      refine r_cVi X lv_Desk_106 (c_tmatches hres (hsl x hx) hok.1 wx.1 hok.2 wx.e hz2 wx.2.2.2.2 h2 (hV2 x hx)) (by assumption) (by decide) rfl (Nat.le_of_ble_eq_true rfl) d_Desk_check_53 rfl (fun S4 r h4 => ?_)
      obtain ⟨e4, ⟨rfl, h4⟩ | ⟨rfl, h4⟩⟩ := h4
      · subst e4
        refine r_if_eqN X d_Desk_check_56 (tgt := 63) (by decide) (by omega) (fun hc => ?_) (fun hc => ?_)
        · omega
        · refine r_iconst X (x := (nI 1)) d_Desk_check_59 (by decide) ?_
          refine r_goto X d_Desk_check_60 (tgt := 64) (by decide) ?_
          exact hR _ _ _ _ d_Desk_check_64 (by decide) ⟨_, rfl, Or.inr ⟨k, x, hk, hx, rfl, rfl, Or.inl ⟨rfl, h3, h4⟩⟩, hV2, hxx⟩
      · refine r_if_eqN X d_Desk_check_56 (tgt := 63) (by decide) (by omega) (fun hc => ?_) (fun hc => ?_)
        · exact no S4 e4 (fun h => h4 h.2)
        · omega
def O_same (V : Vt) (a b : Int32) (r : Int32) : Prop := (¬ (sl a ∧ sl b) ∧ r = nI 0) ∨ ∃ k x, k < 8 ∧ x < 8 ∧ a = nI k ∧ b = nI x ∧ ((r = nI 1 ∧ (V k).1 = (V x).1 ∧ (V k).2.1 = (V x).2.1 ∧ (V k).2.2 = (V x).2.2) ∨ (r = nI 0 ∧ ¬ ((V k).1 = (V x).1 ∧ (V k).2.1 = (V x).2.1 ∧ (V k).2.2 = (V x).2.2)))
set_option maxHeartbeats 4000000 in
set_option maxRecDepth 100000 in
theorem c_same {B : Nat} {d a : Int32} {V : Vt} (hd : isD G cT B) (hV : Rep S B V) (hw : wfV V) : CT (mkE l D cI cT) G y_Desk_same b_Desk_same 3 (some .boolean) 6 [.ref B, .int d, .int a] S (Pi (fun S' r => O_same V d a r ∧ S' = S)) := by
  have hd0 := hd
  obtain ⟨hB, hA, hsl, hres, hrem, hC, hSp⟩ := hd
  refine mk_i (by decide) (eok l D cI cT) (by simp [Value.category]) (Nat.le_of_ble_eq_true rfl) (fun J X hR => ?_)
  show J S 0 [some (.ref B), some (.int d), some (.int a)] []
  have hbad : ¬ (sl d ∧ sl a) → J S 36 [some (.ref B), some (.int d), some (.int a)] [] := by
    intro h
    refine r_iconst X (x := (nI 0)) d_Desk_same_36 (by decide) ?_
    exact hR _ _ _ _ d_Desk_same_37 (by decide) ⟨_, rfl, Or.inl ⟨h, rfl⟩, rfl⟩
  refine r_iload_n X d_Desk_same_0 (by rfl) ?_
  refine r_cSi X ls_Desk_39 c_isSlot (by decide) rfl (Nat.le_of_ble_eq_true rfl) d_Desk_same_1 rfl (fun Sx rx hx => ?_)
  obtain ⟨hxs, hx⟩ := hx
  replace hxs := hxs.symm
  subst hxs
  rcases hx with ⟨rfl, g1⟩ | ⟨rfl, g1⟩
  rotate_left
  · refine r_if_eqN X d_Desk_same_4 (tgt := 36) (by decide) (by omega) (fun _ => ?_) (fun hc => absurd rfl hc)
    exact hbad (fun h => g1 h.1)
  refine r_if_eqN X d_Desk_same_4 (tgt := 36) (by decide) (by omega) (fun hc => absurd hc (by decide)) (fun _ => ?_)
  refine r_iload_n X d_Desk_same_7 (by rfl) ?_
  refine r_cSi X ls_Desk_39 c_isSlot (by decide) rfl (Nat.le_of_ble_eq_true rfl) d_Desk_same_8 rfl (fun Sx rx hx => ?_)
  obtain ⟨hxs, hx⟩ := hx
  replace hxs := hxs.symm
  subst hxs
  rcases hx with ⟨rfl, g2⟩ | ⟨rfl, g2⟩
  rotate_left
  · refine r_if_eqN X d_Desk_same_11 (tgt := 36) (by decide) (by omega) (fun _ => ?_) (fun hc => absurd rfl hc)
    exact hbad (fun h => g2 h.2)
  refine r_if_eqN X d_Desk_same_11 (tgt := 36) (by decide) (by omega) (fun hc => absurd hc (by decide)) (fun _ => ?_)
  obtain ⟨k, hk, rfl⟩ := g1
  obtain ⟨x, hx, rfl⟩ := g2
  have wk := hw k hk
  have wx := hw x hx
  have hkT := (hsl k hk).1
  refine r_aload_n X d_Desk_same_14 (by rfl) ?_
  refine r_get X lf_Desk_11 d_Desk_same_15 (by assumption) (by rfl) ?_
  refine r_iload_n X d_Desk_same_18 (by rfl) ?_
  refine r_aald X d_Desk_same_19 (by assumption) rfl (by omega) (by omega) (slf_at (by omega)) ?_
  refine r_aload_n X d_Desk_same_20 (by rfl) ?_
  refine r_get X lf_Desk_11 d_Desk_same_21 (by assumption) (by rfl) ?_
  refine r_iload_n X d_Desk_same_24 (by rfl) ?_
  refine r_aald X d_Desk_same_25 (by assumption) rfl (by omega) (by omega) (slf_at (by omega)) ?_
  refine r_cVi X lv_Desk_106 (c_tmatches (hsl k hk) (hsl x hx) wk.1 wx.1 wk.e wx.e wk.2.2.2.2 wx.2.2.2.2 (hV k hk) (hV x hx)) (by assumption) (by decide) rfl (Nat.le_of_ble_eq_true rfl) d_Desk_same_26 rfl (fun S1 r h1 => ?_)
  obtain ⟨rfl, ⟨rfl, h1⟩ | ⟨rfl, h1⟩⟩ := h1
  · refine r_if_eqN X d_Desk_same_29 (tgt := 36) (by decide) (by omega) (fun hc => ?_) (fun hc => ?_)
    · omega
    · refine r_iconst X (x := (nI 1)) d_Desk_same_32 (by decide) ?_
      refine r_goto X d_Desk_same_33 (tgt := 37) (by decide) ?_
      exact hR _ _ _ _ d_Desk_same_37 (by decide) ⟨_, rfl, Or.inr ⟨k, x, hk, hx, rfl, rfl, Or.inl ⟨rfl, h1⟩⟩, rfl⟩
  · refine r_if_eqN X d_Desk_same_29 (tgt := 36) (by decide) (by omega) (fun hc => ?_) (fun hc => ?_)
    · refine r_iconst X (x := (nI 0)) d_Desk_same_36 (by decide) ?_
      exact hR _ _ _ _ d_Desk_same_37 (by decide) ⟨_, rfl, Or.inr ⟨k, x, hk, hx, rfl, rfl, Or.inr ⟨rfl, h1⟩⟩, rfl⟩
    · omega
def O_ratio (V : Vt) (s : Int32) (r : Int32) : Prop := (¬ sl s ∧ r = -9) ∨ ∃ k, k < 8 ∧ s = nI k ∧ r = nI (V k).2.2
set_option maxHeartbeats 4000000 in
set_option maxRecDepth 100000 in
theorem c_ratio {B : Nat} {s : Int32} {V : Vt} (hd : isD G cT B) (hV : Rep S B V) : CT (mkE l D cI cT) G y_Desk_ratio b_Desk_ratio 2 (some .int) 6 [.ref B, .int s] S (Pi (fun S' r => O_ratio V s r ∧ S' = S)) := by
  obtain ⟨hB, hA, hsl, hres, hrem, hC, hSp⟩ := hd
  refine mk_i (by decide) (eok l D cI cT) (by simp [Value.category]) (Nat.le_of_ble_eq_true rfl) (fun J X hR => ?_)
  show J S 0 [some (.ref B), some (.int s)] []
  have hbad : ¬ sl s → J S 19 [some (.ref B), some (.int s)] [] := by
    intro h
    refine r_bipush X (x := (-9)) d_Desk_ratio_19 (by decide) ?_
    exact hR _ _ _ _ d_Desk_ratio_21 rfl ⟨_, rfl, Or.inl ⟨h, rfl⟩, rfl⟩
  refine r_iload_n X d_Desk_ratio_0 (by rfl) ?_
  refine r_cSi X ls_Desk_39 c_isSlot (by decide) rfl (Nat.le_of_ble_eq_true rfl) d_Desk_ratio_1 rfl (fun Sx rx hx => ?_)
  obtain ⟨hxs, hx⟩ := hx
  replace hxs := hxs.symm
  subst hxs
  rcases hx with ⟨rfl, g1⟩ | ⟨rfl, g1⟩
  rotate_left
  · refine r_if_eqN X d_Desk_ratio_4 (tgt := 19) (by decide) (by omega) (fun _ => ?_) (fun hc => absurd rfl hc)
    exact hbad (fun h => g1 h)
  refine r_if_eqN X d_Desk_ratio_4 (tgt := 19) (by decide) (by omega) (fun hc => absurd hc (by decide)) (fun _ => ?_)
  obtain ⟨k, hk, rfl⟩ := g1
  have hkT := (hsl k hk).1
  refine r_aload_n X d_Desk_ratio_7 (by rfl) ?_
  refine r_get X lf_Desk_11 d_Desk_ratio_8 (by assumption) (by rfl) ?_
  refine r_iload_n X d_Desk_ratio_11 (by rfl) ?_
  refine r_aald X d_Desk_ratio_12 (by assumption) rfl (by omega) (by omega) (slf_at (by omega)) ?_
  refine r_get X lf_Desk_63 d_Desk_ratio_13 (by assumption) (by rfl) ?_
  rw [(hV k hk).2.2]
  refine r_goto X d_Desk_ratio_16 (tgt := 21) (by decide) ?_
  exact hR _ _ _ _ d_Desk_ratio_21 rfl ⟨_, rfl, Or.inr ⟨k, hk, rfl, rfl⟩, rfl⟩
def O_deg (V : Vt) (s : Int32) (r : Int32) : Prop := (¬ sl s ∧ r = -9) ∨ ∃ k, k < 8 ∧ s = nI k ∧ r = tI (tp (V k).1 32)
set_option maxHeartbeats 4000000 in
set_option maxRecDepth 100000 in
theorem c_degree {B : Nat} {s : Int32} {V : Vt} (hd : isD G cT B) (hV : Rep S B V) : CT (mkE l D cI cT) G y_Desk_degree b_Desk_degree 2 (some .int) 6 [.ref B, .int s] S (Pi (fun S' r => O_deg V s r ∧ S' = S)) := by
  obtain ⟨hB, hA, hsl, hres, hrem, hC, hSp⟩ := hd
  refine mk_i (by decide) (eok l D cI cT) (by simp [Value.category]) (Nat.le_of_ble_eq_true rfl) (fun J X hR => ?_)
  show J S 0 [some (.ref B), some (.int s)] []
  have hbad : ¬ sl s → J S 22 [some (.ref B), some (.int s)] [] := by
    intro h
    refine r_bipush X (x := (-9)) d_Desk_degree_22 (by decide) ?_
    exact hR _ _ _ _ d_Desk_degree_24 rfl ⟨_, rfl, Or.inl ⟨h, rfl⟩, rfl⟩
  refine r_iload_n X d_Desk_degree_0 (by rfl) ?_
  refine r_cSi X ls_Desk_39 c_isSlot (by decide) rfl (Nat.le_of_ble_eq_true rfl) d_Desk_degree_1 rfl (fun Sx rx hx => ?_)
  obtain ⟨hxs, hx⟩ := hx
  replace hxs := hxs.symm
  subst hxs
  rcases hx with ⟨rfl, g1⟩ | ⟨rfl, g1⟩
  rotate_left
  · refine r_if_eqN X d_Desk_degree_4 (tgt := 22) (by decide) (by omega) (fun _ => ?_) (fun hc => absurd rfl hc)
    exact hbad (fun h => g1 h)
  refine r_if_eqN X d_Desk_degree_4 (tgt := 22) (by decide) (by omega) (fun hc => absurd hc (by decide)) (fun _ => ?_)
  obtain ⟨k, hk, rfl⟩ := g1
  have hkT := (hsl k hk).1
  have hkP := (hsl k hk).2.1.1
  refine r_aload_n X d_Desk_degree_7 (by rfl) ?_
  refine r_get X lf_Desk_11 d_Desk_degree_8 (by assumption) (by rfl) ?_
  refine r_iload_n X d_Desk_degree_11 (by rfl) ?_
  refine r_aald X d_Desk_degree_12 (by assumption) rfl (by omega) (by omega) (slf_at (by omega)) ?_
  refine r_get X lf_Desk_49 d_Desk_degree_13 (by assumption) (by rfl) ?_
  refine r_get X lf_Desk_110 d_Desk_degree_16 (by assumption) (by rfl) ?_
  rw [(hV k hk).1.2]
  refine r_goto X d_Desk_degree_19 (tgt := 24) (by decide) ?_
  exact hR _ _ _ _ d_Desk_degree_24 rfl ⟨_, rfl, Or.inr ⟨k, hk, rfl, rfl⟩, rfl⟩
def ix32 (x : Int32) : Prop := ∃ k, k < 32 ∧ x = nI k
def O_coef (V : Vt) (s i : Int32) (r : Int32) : Prop := (¬ (sl s ∧ ix32 i) ∧ r = -9) ∨ ∃ k j, k < 8 ∧ j < 32 ∧ s = nI k ∧ i = nI j ∧ r = nI ((V k).1 j)
set_option maxHeartbeats 4000000 in
set_option maxRecDepth 100000 in
theorem c_coefficient {B : Nat} {s i : Int32} {V : Vt} (hd : isD G cT B) (hV : Rep S B V) : CT (mkE l D cI cT) G y_Desk_coefficient b_Desk_coefficient 3 (some .int) 6 [.ref B, .int s, .int i] S (Pi (fun S' r => O_coef V s i r ∧ S' = S)) := by
  obtain ⟨hB, hA, hsl, hres, hrem, hC, hSp⟩ := hd
  refine mk_i (by decide) (eok l D cI cT) (by simp [Value.category]) (Nat.le_of_ble_eq_true rfl) (fun J X hR => ?_)
  show J S 0 [some (.ref B), some (.int s), some (.int i)] []
  have hbad : ¬ (sl s ∧ ix32 i) → J S 17 [some (.ref B), some (.int s), some (.int i)] [] := by
    intro h
    refine r_bipush X (x := (-9)) d_Desk_coefficient_17 (by decide) ?_
    exact hR _ _ _ _ d_Desk_coefficient_19 rfl ⟨_, rfl, Or.inl ⟨h, rfl⟩, rfl⟩
  refine r_iload_n X d_Desk_coefficient_0 (by rfl) ?_
  refine r_cSi X ls_Desk_39 c_isSlot (by decide) rfl (Nat.le_of_ble_eq_true rfl) d_Desk_coefficient_1 rfl (fun Sx rx hx => ?_)
  obtain ⟨hxs, hx⟩ := hx
  replace hxs := hxs.symm
  subst hxs
  rcases hx with ⟨rfl, g1⟩ | ⟨rfl, g1⟩
  rotate_left
  · refine r_if_eqN X d_Desk_coefficient_4 (tgt := 17) (by decide) (by omega) (fun _ => ?_) (fun hc => absurd rfl hc)
    exact hbad (fun h => g1 h.1)
  refine r_if_eqN X d_Desk_coefficient_4 (tgt := 17) (by decide) (by omega) (fun hc => absurd hc (by decide)) (fun _ => ?_)
  refine r_iload_n X d_Desk_coefficient_7 (by rfl) ?_
  refine r_if_lt X d_Desk_coefficient_8 (tgt := 17) (by decide) (fun hc => ?_) (fun hc => ?_)
  · exact hbad (fun h => by obtain ⟨-, k, hk, e⟩ := h; exact nI_neg_no hc (by omega) e)
  · obtain ⟨j, hj, rfl⟩ := nI_of hc
    refine r_iload_n X d_Desk_coefficient_11 (by rfl) ?_
    refine r_bipush X (x := (nI 31)) d_Desk_coefficient_12 (by decide) ?_
    refine r_icmp_leN X d_Desk_coefficient_14 (tgt := 20) (by decide) (by omega) (by omega) (fun hc => ?_) (fun hc => ?_)
    · obtain ⟨k, hk, rfl⟩ := g1
      have hkT := (hsl k hk).1
      have hkP := (hsl k hk).2.1.1
      have hka := (hsl k hk).2.1.2.1
      refine r_aload_n X d_Desk_coefficient_20 (by rfl) ?_
      refine r_get X lf_Desk_11 d_Desk_coefficient_21 (by assumption) (by rfl) ?_
      refine r_iload_n X d_Desk_coefficient_24 (by rfl) ?_
      refine r_aald X d_Desk_coefficient_25 (by assumption) rfl (by omega) (by omega) (slf_at (by omega)) ?_
      refine r_get X lf_Desk_49 d_Desk_coefficient_26 (by assumption) (by rfl) ?_
      refine r_get X lf_Desk_113 d_Desk_coefficient_29 (by assumption) (by rfl) ?_
      refine r_iload_n X d_Desk_coefficient_32 (by rfl) ?_
      refine r_iald X d_Desk_coefficient_33 (by assumption) (by omega) (by omega) ?_
      exact hR _ _ _ _ d_Desk_coefficient_34 rfl ⟨_, rfl, Or.inr ⟨k, j, hk, by omega, rfl, rfl, by rw [(hV k hk).1.1]⟩, rfl⟩
    · exact hbad (fun h => by obtain ⟨-, k, hk, e⟩ := h; have := (nI_eq hj (by omega)).mp e; omega)
def O_exp (V : Vt) (s b : Int32) (r : Int32) : Prop := (¬ (sl s ∧ sl b) ∧ r = -9) ∨ ∃ k j, k < 8 ∧ j < 8 ∧ s = nI k ∧ b = nI j ∧ r = nI ((V k).2.1 j)
set_option maxHeartbeats 4000000 in
set_option maxRecDepth 100000 in
theorem c_exponent {B : Nat} {s b : Int32} {V : Vt} (hd : isD G cT B) (hV : Rep S B V) : CT (mkE l D cI cT) G y_Desk_exponent b_Desk_exponent 3 (some .int) 6 [.ref B, .int s, .int b] S (Pi (fun S' r => O_exp V s b r ∧ S' = S)) := by
  obtain ⟨hB, hA, hsl, hres, hrem, hC, hSp⟩ := hd
  refine mk_i (by decide) (eok l D cI cT) (by simp [Value.category]) (Nat.le_of_ble_eq_true rfl) (fun J X hR => ?_)
  show J S 0 [some (.ref B), some (.int s), some (.int b)] []
  have hbad : ¬ (sl s ∧ sl b) → J S 28 [some (.ref B), some (.int s), some (.int b)] [] := by
    intro h
    refine r_bipush X (x := (-9)) d_Desk_exponent_28 (by decide) ?_
    exact hR _ _ _ _ d_Desk_exponent_30 rfl ⟨_, rfl, Or.inl ⟨h, rfl⟩, rfl⟩
  refine r_iload_n X d_Desk_exponent_0 (by rfl) ?_
  refine r_cSi X ls_Desk_39 c_isSlot (by decide) rfl (Nat.le_of_ble_eq_true rfl) d_Desk_exponent_1 rfl (fun Sx rx hx => ?_)
  obtain ⟨hxs, hx⟩ := hx
  replace hxs := hxs.symm
  subst hxs
  rcases hx with ⟨rfl, g1⟩ | ⟨rfl, g1⟩
  rotate_left
  · refine r_if_eqN X d_Desk_exponent_4 (tgt := 28) (by decide) (by omega) (fun _ => ?_) (fun hc => absurd rfl hc)
    exact hbad (fun h => g1 h.1)
  refine r_if_eqN X d_Desk_exponent_4 (tgt := 28) (by decide) (by omega) (fun hc => absurd hc (by decide)) (fun _ => ?_)
  refine r_iload_n X d_Desk_exponent_7 (by rfl) ?_
  refine r_cSi X ls_Desk_67 c_isPole (by decide) rfl (Nat.le_of_ble_eq_true rfl) d_Desk_exponent_8 rfl (fun Sx rx hx => ?_)
  obtain ⟨hxs, hx⟩ := hx
  replace hxs := hxs.symm
  subst hxs
  rcases hx with ⟨rfl, g2⟩ | ⟨rfl, g2⟩
  rotate_left
  · refine r_if_eqN X d_Desk_exponent_11 (tgt := 28) (by decide) (by omega) (fun _ => ?_) (fun hc => absurd rfl hc)
    exact hbad (fun h => g2 h.2)
  refine r_if_eqN X d_Desk_exponent_11 (tgt := 28) (by decide) (by omega) (fun hc => absurd hc (by decide)) (fun _ => ?_)
  obtain ⟨k, hk, rfl⟩ := g1
  obtain ⟨j, hj, rfl⟩ := g2
  have hkT := (hsl k hk).1
  have hke := (hsl k hk).2.2
  refine r_aload_n X d_Desk_exponent_14 (by rfl) ?_
  refine r_get X lf_Desk_11 d_Desk_exponent_15 (by assumption) (by rfl) ?_
  refine r_iload_n X d_Desk_exponent_18 (by rfl) ?_
  refine r_aald X d_Desk_exponent_19 (by assumption) rfl (by omega) (by omega) (slf_at (by omega)) ?_
  refine r_get X lf_Desk_73 d_Desk_exponent_20 (by assumption) (by rfl) ?_
  refine r_iload_n X d_Desk_exponent_23 (by rfl) ?_
  refine r_iald X d_Desk_exponent_24 (by assumption) (by omega) (by omega) ?_
  refine r_goto X d_Desk_exponent_25 (tgt := 30) (by decide) ?_
  exact hR _ _ _ _ d_Desk_exponent_30 rfl ⟨_, rfl, Or.inr ⟨k, j, hk, hj, rfl, rfl, by rw [(hV k hk).2.1]⟩, rfl⟩
def O_wgt (V : Vt) (s b e : Int32) (r : Int32) : Prop := (¬ (sl s ∧ sl b ∧ px3 e) ∧ r = -9) ∨ ∃ k j i, k < 8 ∧ j < 8 ∧ 1 ≤ i ∧ i ≤ 3 ∧ s = nI k ∧ b = nI j ∧ e = nI i ∧ r = nI (wgc (V k).2.1 (V k).1 j i)
set_option maxHeartbeats 4000000 in
set_option maxRecDepth 100000 in
theorem c_weight {B : Nat} {s b e : Int32} {V : Vt} (hd : isD G cT B) (hV : Rep S B V) (hw : wfV V) : CT (mkE l D cI cT) G y_Desk_weight b_Desk_weight 4 (some .int) 6 [.ref B, .int s, .int b, .int e] S (Pi (fun S' r => O_wgt V s b e r ∧ Rep S' B V ∧ exD B S S')) := by
  obtain ⟨hB, hA, hsl, hres, hrem, hC, hSp⟩ := hd
  have hSS := hSp.1
  refine mk_i (by decide) (eok l D cI cT) (by simp [Value.category]) (Nat.le_of_ble_eq_true rfl) (fun J X hR => ?_)
  show J S 0 [some (.ref B), some (.int s), some (.int b), some (.int e)] []
  have hbad : ¬ (sl s ∧ sl b ∧ px3 e) → J S 21 [some (.ref B), some (.int s), some (.int b), some (.int e)] [] := by
    intro h
    refine r_bipush X (x := (-9)) d_Desk_weight_21 (by decide) ?_
    exact hR _ _ _ _ d_Desk_weight_23 rfl ⟨_, rfl, Or.inl ⟨h, rfl⟩, hV, Ex.rf _ _⟩
  refine r_iload_n X d_Desk_weight_0 (by rfl) ?_
  refine r_cSi X ls_Desk_39 c_isSlot (by decide) rfl (Nat.le_of_ble_eq_true rfl) d_Desk_weight_1 rfl (fun Sx rx hx => ?_)
  obtain ⟨hxs, hx⟩ := hx
  replace hxs := hxs.symm
  subst hxs
  rcases hx with ⟨rfl, g1⟩ | ⟨rfl, g1⟩
  rotate_left
  · refine r_if_eqN X d_Desk_weight_4 (tgt := 21) (by decide) (by omega) (fun _ => ?_) (fun hc => absurd rfl hc)
    exact hbad (fun h => g1 h.1)
  refine r_if_eqN X d_Desk_weight_4 (tgt := 21) (by decide) (by omega) (fun hc => absurd hc (by decide)) (fun _ => ?_)
  refine r_iload_n X d_Desk_weight_7 (by rfl) ?_
  refine r_cSi X ls_Desk_67 c_isPole (by decide) rfl (Nat.le_of_ble_eq_true rfl) d_Desk_weight_8 rfl (fun Sx rx hx => ?_)
  obtain ⟨hxs, hx⟩ := hx
  replace hxs := hxs.symm
  subst hxs
  rcases hx with ⟨rfl, g2⟩ | ⟨rfl, g2⟩
  rotate_left
  · refine r_if_eqN X d_Desk_weight_11 (tgt := 21) (by decide) (by omega) (fun _ => ?_) (fun hc => absurd rfl hc)
    exact hbad (fun h => g2 h.2.1)
  refine r_if_eqN X d_Desk_weight_11 (tgt := 21) (by decide) (by omega) (fun hc => absurd hc (by decide)) (fun _ => ?_)
  refine r_iload_n X d_Desk_weight_14 (by rfl) ?_
  refine r_cSi X ls_Desk_70 c_isPosExp (by decide) rfl (Nat.le_of_ble_eq_true rfl) d_Desk_weight_15 rfl (fun Sx rx hx => ?_)
  obtain ⟨hxs, hx⟩ := hx
  replace hxs := hxs.symm
  subst hxs
  rcases hx with ⟨rfl, g3⟩ | ⟨rfl, g3⟩
  rotate_left
  · refine r_if_neN X d_Desk_weight_18 (tgt := 24) (by decide) (by omega) (fun hc => absurd rfl hc) (fun _ => ?_)
    exact hbad (fun h => g3 h.2.2)
  refine r_if_neN X d_Desk_weight_18 (tgt := 24) (by decide) (by omega) (fun _ => ?_) (fun hc => absurd hc (by decide))
  obtain ⟨k, hk, rfl⟩ := g1
  obtain ⟨j, hj, rfl⟩ := g2
  obtain ⟨i, hi1, hi3, rfl⟩ := g3
  have wk := hw k hk
  refine r_aload_n X d_Desk_weight_24 (by rfl) ?_
  refine r_get X lf_Desk_35 d_Desk_weight_25 (by assumption) (by rfl) ?_
  refine r_aload_n X d_Desk_weight_28 (by rfl) ?_
  refine r_get X lf_Desk_11 d_Desk_weight_29 (by assumption) (by rfl) ?_
  refine r_iload_n X d_Desk_weight_32 (by rfl) ?_
  refine r_aald X d_Desk_weight_33 (by assumption) rfl (by omega) (by omega) (slf_at (by omega)) ?_
  refine r_iload_n X d_Desk_weight_34 (by rfl) ?_
  refine r_iload_n X d_Desk_weight_35 (by rfl) ?_
  refine r_cVi X lv_Desk_116 (c_weightOf (b := j) (k := i) hSp (hsl k hk) wk.1 wk.e hj (by omega) (hV k hk)) (by assumption) (by decide) rfl (Nat.le_of_ble_eq_true rfl) d_Desk_weight_36 rfl (fun S1 r h1 => ?_)
  obtain ⟨hx1, rfl⟩ := h1
  exact hR _ _ _ _ d_Desk_weight_39 rfl ⟨_, rfl, Or.inr ⟨k, j, i, hk, hj, hi1, hi3, rfl, rfl, rfl, rfl⟩, hV.ex hx1 (fun a h1 h2 => by omega), hx1.mono (fun a h => by omega)⟩
def tv (T : Tt) (x : Int32) : Nat := tvl 32 T.1 T.2.1 T.2.2 x
def O_val (V : Vt) (s x : Int32) (r : Int32) : Prop := (¬ (sl s ∧ plc x) ∧ r = -9) ∨ ∃ k, k < 8 ∧ s = nI k ∧ plc x ∧ ((undf (V k).2.1 x ∧ r = -6) ∨ (¬ undf (V k).2.1 x ∧ r = nI (tv (V k) x)))
set_option maxHeartbeats 4000000 in
set_option maxRecDepth 100000 in
theorem c_value {B : Nat} {s x : Int32} {V : Vt} (hd : isD G cT B) (hV : Rep S B V) (hw : wfV V) : CT (mkE l D cI cT) G y_Desk_value b_Desk_value 3 (some .int) 6 [.ref B, .int s, .int x] S (Pi (fun S' r => O_val V s x r ∧ S' = S)) := by
  obtain ⟨hB, hA, hsl, hres, hrem, hC, hSp⟩ := hd
  refine mk_i (by decide) (eok l D cI cT) (by simp [Value.category]) (Nat.le_of_ble_eq_true rfl) (fun J X hR => ?_)
  show J S 0 [some (.ref B), some (.int s), some (.int x)] []
  have hbad : ¬ (sl s ∧ plc x) → J S 14 [some (.ref B), some (.int s), some (.int x)] [] := by
    intro h
    refine r_bipush X (x := (-9)) d_Desk_value_14 (by decide) ?_
    exact hR _ _ _ _ d_Desk_value_16 rfl ⟨_, rfl, Or.inl ⟨h, rfl⟩, rfl⟩
  refine r_iload_n X d_Desk_value_0 (by rfl) ?_
  refine r_cSi X ls_Desk_39 c_isSlot (by decide) rfl (Nat.le_of_ble_eq_true rfl) d_Desk_value_1 rfl (fun Sx rx hx => ?_)
  obtain ⟨hxs, hx⟩ := hx
  replace hxs := hxs.symm
  subst hxs
  rcases hx with ⟨rfl, g1⟩ | ⟨rfl, g1⟩
  rotate_left
  · refine r_if_eqN X d_Desk_value_4 (tgt := 14) (by decide) (by omega) (fun _ => ?_) (fun hc => absurd rfl hc)
    exact hbad (fun h => g1 h.1)
  refine r_if_eqN X d_Desk_value_4 (tgt := 14) (by decide) (by omega) (fun hc => absurd hc (by decide)) (fun _ => ?_)
  refine r_iload_n X d_Desk_value_7 (by rfl) ?_
  refine r_cSi X ls_Desk_120 c_isPlace (by decide) rfl (Nat.le_of_ble_eq_true rfl) d_Desk_value_8 rfl (fun Sx rx hx => ?_)
  obtain ⟨hxs, hx⟩ := hx
  replace hxs := hxs.symm
  subst hxs
  rcases hx with ⟨rfl, g2⟩ | ⟨rfl, g2⟩
  rotate_left
  · refine r_if_neN X d_Desk_value_11 (tgt := 17) (by decide) (by omega) (fun hc => absurd rfl hc) (fun _ => ?_)
    exact hbad (fun h => g2 h.2)
  refine r_if_neN X d_Desk_value_11 (tgt := 17) (by decide) (by omega) (fun _ => ?_) (fun hc => absurd hc (by decide))
  obtain ⟨k, hk, rfl⟩ := g1
  have wk := hw k hk
  have hkT := (hsl k hk).1
  obtain ⟨p1, p2⟩ := g2
  refine r_aload_n X d_Desk_value_17 (by rfl) ?_
  refine r_get X lf_Desk_11 d_Desk_value_18 (by assumption) (by rfl) ?_
  refine r_iload_n X d_Desk_value_21 (by rfl) ?_
  refine r_aald X d_Desk_value_22 (by assumption) rfl (by omega) (by omega) (slf_at (by omega)) ?_
  refine r_iload_n X d_Desk_value_23 (by rfl) ?_
  refine r_cVi X lv_Desk_123 (c_isDefinedAt (hsl k hk) wk.e (hV k hk)) (by assumption) (by decide) rfl (Nat.le_of_ble_eq_true rfl) d_Desk_value_24 rfl (fun S1 r h1 => ?_)
  obtain ⟨hxs, h1⟩ := h1
  replace hxs := hxs.symm
  subst hxs
  obtain ⟨rfl, h1⟩ | ⟨rfl, h1⟩ := h1
  · refine r_if_eqN X d_Desk_value_27 (tgt := 43) (by decide) (by omega) (fun hc => ?_) (fun hc => ?_)
    · refine r_bipush X (x := (-6)) d_Desk_value_43 (by decide) ?_
      exact hR _ _ _ _ d_Desk_value_45 rfl ⟨_, rfl, Or.inr ⟨k, hk, rfl, ⟨p1, p2⟩, Or.inl ⟨h1, rfl⟩⟩, rfl⟩
    · omega
  · refine r_if_eqN X d_Desk_value_27 (tgt := 43) (by decide) (by omega) (fun hc => ?_) (fun hc => ?_)
    · omega
    · refine r_aload_n X d_Desk_value_30 (by rfl) ?_
      refine r_get X lf_Desk_11 d_Desk_value_31 (by assumption) (by rfl) ?_
      refine r_iload_n X d_Desk_value_34 (by rfl) ?_
      refine r_aald X d_Desk_value_35 (by assumption) rfl (by omega) (by omega) (slf_at (by omega)) ?_
      refine r_iload_n X d_Desk_value_36 (by rfl) ?_
      refine r_cVi X lv_Desk_126 (c_tat (hsl k hk) wk.1 wk.e wk.2.2.2.2 (by omega) (by omega) (hV k hk)) (by assumption) (by decide) rfl (Nat.le_of_ble_eq_true rfl) d_Desk_value_37 rfl (fun S2 r h2 => ?_)
      obtain ⟨rfl, rfl⟩ := h2
      refine r_goto X d_Desk_value_40 (tgt := 45) (by decide) ?_
      exact hR _ _ _ _ d_Desk_value_45 rfl ⟨_, rfl, Or.inr ⟨k, hk, rfl, ⟨p1, p2⟩, Or.inr ⟨h1, rfl⟩⟩, rfl⟩
def tsm (T : Tt) (u : Int32) : Nat → Nat
  | 0 => 0
  | j + 1 => (tsm T u j + tv T (u + nI j)) % 10007
theorem tsm_lt (T : Tt) (u : Int32) (j : Nat) : tsm T u j < 10007 := by
  cases j with
  | zero => exact (by decide : 0 < 10007)
  | succ j => exact Nat.mod_lt _ (by decide)
def spn (u v : Int32) : Nat := (v.toInt - u.toInt + 1).toNat
def O_sum (V : Vt) (s u v : Int32) (r : Int32) : Prop := (¬ (sl s ∧ plc u ∧ plc v) ∧ r = -9) ∨ ∃ k, k < 8 ∧ s = nI k ∧ plc u ∧ plc v ∧ (((∃ j, j < spn u v ∧ undf (V k).2.1 (u + nI j)) ∧ r = -6) ∨ ((¬ ∃ j, j < spn u v ∧ undf (V k).2.1 (u + nI j)) ∧ r = nI (tsm (V k) u (spn u v))))
theorem add_toInt {u : Int32} {j : Nat} (h1 : -1000 ≤ u.toInt) (h2 : u.toInt ≤ 1000) (hj : j ≤ 5000) : (u + nI j).toInt = u.toInt + j := by
  rw [Int32.toInt_add, nI_toInt (by omega)]
  unfold Int.bmod
  simp only
  split <;> omega
theorem tv_lt (T : Tt) (x : Int32) : tv T x < 10007 := Nat.mod_lt _ (by decide)
set_option maxHeartbeats 4000000 in
set_option maxRecDepth 100000 in
theorem c_sum {B : Nat} {s u v : Int32} {V : Vt} (hd : isD G cT B) (hV : Rep S B V) (hw : wfV V) : CT (mkE l D cI cT) G y_Desk_sum b_Desk_sum 6 (some .int) 6 [.ref B, .int s, .int u, .int v] S (Pi (fun S' r => O_sum V s u v r ∧ S' = S)) := by
  obtain ⟨hB, hA, hsl, hres, hrem, hC, hSp⟩ := hd
  refine mk_i (by decide) (eok l D cI cT) (by simp [Value.category]) (Nat.le_of_ble_eq_true rfl) (fun J X hR => ?_)
  show J S 0 [some (.ref B), some (.int s), some (.int u), some (.int v), none, none] []
  have hbad : ¬ (sl s ∧ plc u ∧ plc v) → J S 21 [some (.ref B), some (.int s), some (.int u), some (.int v), none, none] [] := by
    intro h
    refine r_bipush X (x := (-9)) d_Desk_sum_21 (by decide) ?_
    exact hR _ _ _ _ d_Desk_sum_23 rfl ⟨_, rfl, Or.inl ⟨h, rfl⟩, rfl⟩
  refine r_iload_n X d_Desk_sum_0 (by rfl) ?_
  refine r_cSi X ls_Desk_39 c_isSlot (by decide) rfl (Nat.le_of_ble_eq_true rfl) d_Desk_sum_1 rfl (fun Sx rx hx => ?_)
  obtain ⟨hxs, hx⟩ := hx
  replace hxs := hxs.symm
  subst hxs
  rcases hx with ⟨rfl, g1⟩ | ⟨rfl, g1⟩
  rotate_left
  · refine r_if_eqN X d_Desk_sum_4 (tgt := 21) (by decide) (by omega) (fun _ => ?_) (fun hc => absurd rfl hc)
    exact hbad (fun h => g1 h.1)
  refine r_if_eqN X d_Desk_sum_4 (tgt := 21) (by decide) (by omega) (fun hc => absurd hc (by decide)) (fun _ => ?_)
  refine r_iload_n X d_Desk_sum_7 (by rfl) ?_
  refine r_cSi X ls_Desk_120 c_isPlace (by decide) rfl (Nat.le_of_ble_eq_true rfl) d_Desk_sum_8 rfl (fun Sx rx hx => ?_)
  obtain ⟨hxs, hx⟩ := hx
  replace hxs := hxs.symm
  subst hxs
  rcases hx with ⟨rfl, g2⟩ | ⟨rfl, g2⟩
  rotate_left
  · refine r_if_eqN X d_Desk_sum_11 (tgt := 21) (by decide) (by omega) (fun _ => ?_) (fun hc => absurd rfl hc)
    exact hbad (fun h => g2 h.2.1)
  refine r_if_eqN X d_Desk_sum_11 (tgt := 21) (by decide) (by omega) (fun hc => absurd hc (by decide)) (fun _ => ?_)
  refine r_iload_n X d_Desk_sum_14 (by rfl) ?_
  refine r_cSi X ls_Desk_120 c_isPlace (by decide) rfl (Nat.le_of_ble_eq_true rfl) d_Desk_sum_15 rfl (fun Sx rx hx => ?_)
  obtain ⟨hxs, hx⟩ := hx
  replace hxs := hxs.symm
  subst hxs
  rcases hx with ⟨rfl, g3⟩ | ⟨rfl, g3⟩
  rotate_left
  · refine r_if_neN X d_Desk_sum_18 (tgt := 24) (by decide) (by omega) (fun hc => absurd rfl hc) (fun _ => ?_)
    exact hbad (fun h => g3 h.2.2)
  refine r_if_neN X d_Desk_sum_18 (tgt := 24) (by decide) (by omega) (fun _ => ?_) (fun hc => absurd hc (by decide))
  obtain ⟨k, hk, rfl⟩ := g1
  have wk := hw k hk
  have hkT := (hsl k hk).1
  have p2 := g2
  have p3 := g3
  obtain ⟨q1, q2⟩ := g2
  obtain ⟨q3, q4⟩ := g3
  have loop : ∀ m j, j + m = spn u v → (∀ i, i < j → ¬ undf (V k).2.1 (u + nI i)) → J S 30 [some (.ref B), some (.int (nI k)), some (.int u), some (.int v), some (.int (nI (tsm (V k) u j))), some (.int (u + nI j))] [] := by
    intro m
    induction m with
    | zero =>
      intro j hj hno
      have hsp : spn u v = (v.toInt - u.toInt + 1).toNat := rfl
      have ea := add_toInt (u := u) (j := j) (by omega) (by omega) (by omega)
      refine r_iload X d_Desk_sum_30 (by rfl) ?_
      refine r_iload_n X d_Desk_sum_32 (by rfl) ?_
      refine r_icmp_gt X d_Desk_sum_33 (tgt := 79) (by decide) (fun hc => ?_) (fun hc => ?_)
      · refine r_iload X d_Desk_sum_79 (by rfl) ?_
        refine hR _ _ _ _ d_Desk_sum_81 rfl ⟨_, rfl, Or.inr ⟨k, hk, rfl, p2, p3, Or.inr ⟨fun ⟨i, hi, h⟩ => hno i (by omega) h, ?_⟩⟩, rfl⟩
        rw [show spn u v = j by omega]
      · rw [Int32.lt_iff_toInt_lt, ea] at hc
        omega
    | succ m ih =>
      intro j hj hno
      have hsp : spn u v = (v.toInt - u.toInt + 1).toNat := rfl
      have ea := add_toInt (u := u) (j := j) (by omega) (by omega) (by omega)
      have ht := tsm_lt (V k) u j
      have htv := tv_lt (V k) (u + nI j)
      refine r_iload X d_Desk_sum_30 (by rfl) ?_
      refine r_iload_n X d_Desk_sum_32 (by rfl) ?_
      refine r_icmp_gt X d_Desk_sum_33 (tgt := 79) (by decide) (fun hc => ?_) (fun hc => ?_)
      · rw [Int32.lt_iff_toInt_lt, ea] at hc
        omega
      · refine r_aload_n X d_Desk_sum_36 (by rfl) ?_
        refine r_get X lf_Desk_11 d_Desk_sum_37 (by assumption) (by rfl) ?_
        refine r_iload_n X d_Desk_sum_40 (by rfl) ?_
        refine r_aald X d_Desk_sum_41 (by assumption) rfl (by omega) (by omega) (slf_at (by omega)) ?_
        refine r_iload X d_Desk_sum_42 (by rfl) ?_
        refine r_cVi X lv_Desk_123 (c_isDefinedAt (hsl k hk) wk.e (hV k hk)) (by assumption) (by decide) rfl (Nat.le_of_ble_eq_true rfl) d_Desk_sum_44 rfl (fun S1 r h1 => ?_)
        obtain ⟨hxs, h1⟩ := h1
        replace hxs := hxs.symm
        subst hxs
        obtain ⟨rfl, h1⟩ | ⟨rfl, h1⟩ := h1
        · refine r_if_neN X d_Desk_sum_47 (tgt := 53) (by decide) (by omega) (fun hc => ?_) (fun hc => ?_)
          · omega
          · refine r_bipush X (x := (-6)) d_Desk_sum_50 (by decide) ?_
            exact hR _ _ _ _ d_Desk_sum_52 rfl ⟨_, rfl, Or.inr ⟨k, hk, rfl, p2, p3, Or.inl ⟨⟨j, by omega, h1⟩, rfl⟩⟩, rfl⟩
        · refine r_if_neN X d_Desk_sum_47 (tgt := 53) (by decide) (by omega) (fun hc => ?_) (fun hc => ?_)
          · refine r_iload X d_Desk_sum_53 (by rfl) ?_
            refine r_aload_n X d_Desk_sum_55 (by rfl) ?_
            refine r_get X lf_Desk_11 d_Desk_sum_56 (by assumption) (by rfl) ?_
            refine r_iload_n X d_Desk_sum_59 (by rfl) ?_
            refine r_aald X d_Desk_sum_60 (by assumption) rfl (by omega) (by omega) (slf_at (by omega)) ?_
            refine r_iload X d_Desk_sum_61 (by rfl) ?_
            refine r_cVi X lv_Desk_126 (c_tat (hsl k hk) wk.1 wk.e wk.2.2.2.2 (by omega) (by omega) (hV k hk)) (by assumption) (by decide) rfl (Nat.le_of_ble_eq_true rfl) d_Desk_sum_63 rfl (fun S2 r h2 => ?_)
            obtain ⟨hxs, rfl⟩ := h2
            replace hxs := hxs.symm
            subst hxs
            have e5 : tvl 32 (V k).1 (V k).2.1 (V k).2.2 (u + nI j) = tv (V k) (u + nI j) := rfl
            rw [e5]
            first | refine r_iaddN X d_Desk_sum_66 ?_ | refine r_iadd X d_Desk_sum_66 ?_
            refine r_sipush X (x := (nI 10007)) d_Desk_sum_67 (by decide) ?_
            refine r_iremN X d_Desk_sum_70 (by decide) (by decide) (by omega) ?_
            refine r_istore X d_Desk_sum_71 (by decide) ?_
            refine r_iinc X d_Desk_sum_73 (by rfl) (y := u + nI (j + 1)) ?_ (by decide) ?_
            · rw [Int32.add_assoc, show Int32.ofInt 1 = nI 1 by decide, nI_add]
            · refine r_goto X d_Desk_sum_76 (tgt := 30) (by decide) ?_
              refine ih (j + 1) (by omega) (fun i hi => ?_)
              by_cases h : i = j
              · rw [h]; exact h1
              · exact hno i (by omega)
          · omega
  refine r_iconst X (x := (nI 0)) d_Desk_sum_24 (by decide) ?_
  refine r_istore X d_Desk_sum_25 (by decide) ?_
  refine r_iload_n X d_Desk_sum_27 (by rfl) ?_
  refine r_istore X d_Desk_sum_28 (by decide) ?_
  refine r_forget X (L' := [some (.ref B), some (.int (nI k)), some (.int u), some (.int v), some (.int (nI (tsm (V k) u 0))), some (.int (u + nI 0))]) ?_ (loop (spn u v) 0 (by omega) (fun i hi => by omega))
  intro i w hw
  rw [show u + nI 0 = u by rw [nI_0, Int32.add_zero]] at hw
  exact hw
end D3
