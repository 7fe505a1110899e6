section MA
variable {l : Launch} {D : va_G} {cI cT : ClassId} {G : Gm} {S : Sg}
set_option maxHeartbeats 8000000 in
set_option maxRecDepth 100000 in
theorem m_others {m b e : Nat} {L : Nat → Nat} (hm : isM G m) (hb : b < 8) (hL : ∀ i, L i < 100) (he : e ≤ L b) (hl : S.1 (m + 8) = L) (hg : okG (S.1 (m + 4))) : CT (mkE l D cI cT) G y_Model_others b_Model_others 4 none 2 [.ref m, .int (nI b), .int (nI e)] S (Pv (fun S' => S' = arS S (m + 4) (rst (S.1 (m + 4)) 160 (wd 80 (va_up L b (L b - e)) 8 (lin 0 1))))) := by
  have hm0 := hm
  obtain ⟨hM, hco, hex, hra, hpo, hbe, hwe, hro, hle, hva⟩ := hm
  have hLb := hL b
  refine mk_v (by decide) (eok l D cI cT) (by simp [Value.category]) (Nat.le_of_ble_eq_true rfl) (fun J X hR => ?_)
  show J S 0 [some (.ref m), some (.int (nI b)), some (.int (nI e)), none] []
  have hok : ∀ q, okP 80 (wd 80 (va_up L b (L b - e)) q (lin 0 1)) := fun q => wd_ok (lin_ok (by decide) (by decide) (by decide)) q
  have loop : ∀ n q S1, q + n = 8 → S1 = arS S (m + 4) (rst (S.1 (m + 4)) 160 (wd 80 (va_up L b (L b - e)) q (lin 0 1))) → J S1 18 [some (.ref m), some (.int (nI b)), some (.int (nI e)), some (.int (nI q))] [] := by
    intro n
    induction n with
    | zero =>
      intro q S1 hq hS
      refine r_iload_n X d_Model_others_18 (by rfl) ?_
      refine r_bipush X (x := (nI 8)) d_Model_others_19 (by decide) ?_
      refine r_icmp_geN X d_Model_others_21 (tgt := 60) (by decide) (by omega) (by omega) (fun hc => ?_) (fun hc => ?_)
      · refine hR _ _ _ d_Model_others_60 ⟨rfl, ?_⟩
        rw [hS, show q = 8 by omega]
      · omega
    | succ n ih =>
      intro q S1 hq hS
      have f1 : S1.1 (m + 4) = rst (S.1 (m + 4)) 160 (wd 80 (va_up L b (L b - e)) q (lin 0 1)) := by rw [hS, arS_1]
      have l1 : S1.1 (m + 8) = L := by rw [hS, arS_1n (by omega)]; exact hl
      have hg1 : okG (S1.1 (m + 4)) := by rw [f1]; exact hg.rst 160 (hok q)
      have hLq := hL q
      have fin : ∀ t, t = va_up L b (L b - e) q → J S1 51 [some (.ref m), some (.int (nI b)), some (.int (nI e)), some (.int (nI q))] [.int (nI t), .int (nI q), .int (nI 160), .ref m] := by
        intro t ht
        have ht9 : t < 1000 := by
          rw [ht]
          unfold va_up
          split <;> omega
        refine r_cVv X lv_Model_93 (m_times (p := 160) (x := nI q) hm0 (by omega) hg1 ht9) (by assumption) (by decide) rfl (Nat.le_of_ble_eq_true rfl) d_Model_others_51 rfl (fun S2 h2 => ?_)
        rw [f1, rowf_rst (hok q), rst_rst, em_nI (by omega), Nat.mod_eq_of_lt (by omega), ht] at h2
        refine r_iincN X 1 d_Model_others_54 (by rfl) (by decide) (by decide) ?_
        refine r_goto X d_Model_others_57 (tgt := 18) (by decide) ?_
        refine ih (q + 1) S2 (by omega) ?_
        rw [h2, hS, arS_arS]
        rfl
      refine r_iload_n X d_Model_others_18 (by rfl) ?_
      refine r_bipush X (x := (nI 8)) d_Model_others_19 (by decide) ?_
      refine r_icmp_geN X d_Model_others_21 (tgt := 60) (by decide) (by omega) (by omega) (fun hc => ?_) (fun hc => ?_)
      · omega
      · refine r_aload_n X d_Model_others_24 (by rfl) ?_
        refine r_sipush X (x := (nI 160)) d_Model_others_25 (by decide) ?_
        refine r_iload_n X d_Model_others_28 (by rfl) ?_
        refine r_iload_n X d_Model_others_29 (by rfl) ?_
        refine r_iload_n X d_Model_others_30 (by rfl) ?_
        refine r_icmp_neN X d_Model_others_31 (tgt := 45) (by decide) (by omega) (by omega) (fun hc => ?_) (fun hc => ?_)
        · refine r_aload_n X d_Model_others_45 (by rfl) ?_
          refine r_get X lf_Model_31 d_Model_others_46 (by assumption) (by rfl) ?_
          refine r_iload_n X d_Model_others_49 (by rfl) ?_
          refine r_iald X d_Model_others_50 (by assumption) (by omega) (by omega) ?_
          rw [l1]
          exact fin _ (by rw [va_up_n hc])
        · refine r_aload_n X d_Model_others_34 (by rfl) ?_
          refine r_get X lf_Model_31 d_Model_others_35 (by assumption) (by rfl) ?_
          refine r_iload_n X d_Model_others_38 (by rfl) ?_
          refine r_iald X d_Model_others_39 (by assumption) (by omega) (by omega) ?_
          rw [l1, hc]
          refine r_iload_n X d_Model_others_40 (by rfl) ?_
          first | refine r_isubN X d_Model_others_41 (by omega) ?_ | refine r_isub X d_Model_others_41 ?_
          refine r_goto X d_Model_others_42 (tgt := 51) (by decide) ?_
          have := fin (L b - e) (by rw [hc, va_up_s])
          rw [hc] at this
          exact this
  refine r_aload_n X d_Model_others_0 (by rfl) ?_
  refine r_sipush X (x := (nI 160)) d_Model_others_1 (by decide) ?_
  refine r_cVv X lv_Model_41 (m_clear (p := 160) hm0 (by omega)) (by assumption) (by decide) rfl (Nat.le_of_ble_eq_true rfl) d_Model_others_4 rfl (fun S2 h2 => ?_)
  refine r_aload_n X d_Model_others_7 (by rfl) ?_
  refine r_get X lf_Model_19 d_Model_others_8 (by assumption) (by rfl) ?_
  refine r_sipush X (x := (nI 160)) d_Model_others_11 (by decide) ?_
  refine r_iconst X (x := (nI 1)) d_Model_others_14 (by decide) ?_
  refine r_iast X d_Model_others_15 (by assumption) (by omega) (by omega) ?_
  refine r_iconst X (x := (nI 0)) d_Model_others_16 (by decide) ?_
  refine r_istore_n X d_Model_others_17 (by decide) ?_
  refine loop 8 0 _ (by omega) ?_
  rw [h2, arS_arS, arS_1, rst_up0]
  congr 2
  funext i
  show va_up (fun _ => 0) 0 1 i = lin 0 1 i
  unfold va_up lin
  split
  · rfl
  · split <;> rfl
def opr (e : Nat → Nat) (b : Nat) : Nat → Nat := wd 80 (lfb e b) 8 (lin 0 1)
theorem opr_ok (e : Nat → Nat) (b : Nat) : okP 80 (opr e b) := wd_ok (lin_ok (by decide) (by decide) (by decide)) 8
def wgw (e : Nat → Nat) (b : Nat) (W : Nat → Nat) : Nat := hn W (rt b) 80 0 * iv (hn (opr e b) (rt b) 80 0) % 10007
def wch (e : Nat → Nat) (b : Nat) : Nat → (Nat → Nat) → (Nat → Nat) → (Nat → Nat) × (Nat → Nat)
  | 0, W, u => (W, u)
  | j + 1, W, u => wch e b j (dq 80 (rt b) (ads 80 (10007 - wgw e b W) W (opr e b))) (va_up u (3 * b + j) (wgw e b W))
def wall (e : Nat → Nat) : Nat → (Nat → Nat) → (Nat → Nat) × (Nat → Nat)
  | 0, W => (W, fun _ => 0)
  | b + 1, W => wch e b (e b) (wall e b W).1 (wall e b W).2
theorem wch_ok {e : Nat → Nat} {b : Nat} : ∀ (j : Nat) {W u : Nat → Nat}, okP 80 W → (∀ i, u i < 10007) → okP 80 (wch e b j W u).1 ∧ ∀ i, (wch e b j W u).2 i < 10007 := by
  intro j
  induction j with
  | zero => intro W u h1 h2; exact ⟨h1, h2⟩
  | succ j ih =>
    intro W u h1 h2
    refine ih (dq_ok 80 _ _) (fun i => ?_)
    unfold va_up
    split
    · exact Nat.mod_lt _ (by decide)
    · exact h2 i
theorem wall_ok {e W : Nat → Nat} (h : okP 80 W) : ∀ b, okP 80 (wall e b W).1 ∧ ∀ i, (wall e b W).2 i < 10007
  | 0 => ⟨h, fun _ => (by decide : 0 < 10007)⟩
  | b + 1 => wch_ok (e b) (wall_ok h b).1 (wall_ok h b).2
abbrev exW (m : Nat) : Sg → Sg → Prop := Ex (fun a => a = m + 4 ∨ a = m + 6 ∨ a = m + 8)
set_option maxHeartbeats 8000000 in
set_option maxRecDepth 100000 in
theorem m_weigh {m s : Nat} {V : Vt} (hm : isM G m) (hs : s < 8) (hV : MI S m V) (hw : wfV V) : CT (mkE l D cI cT) G y_Model_weigh b_Model_weigh 5 none 3 [.ref m, .int (nI s)] S (Pv (fun S' => MI S' m V ∧ rowf (S'.1 (m + 4)) 240 = (wall (V s).2.1 8 (V s).1).1 ∧ S'.1 (m + 6) = (wall (V s).2.1 8 (V s).1).2 ∧ exW m S S')) := by
  have hm0 := hm
  obtain ⟨hM, hco, hex, hra, hpo, hbe, hwe, hro, hle, hva⟩ := hm
  have ws := hw s hs
  refine mk_v (by decide) (eok l D cI cT) (by simp [Value.category]) (Nat.le_of_ble_eq_true rfl) (fun J X hR => ?_)
  show J S 0 [some (.ref m), some (.int (nI s)), none, none, none] []
  have loop2 : ∀ n b S1 o3 o4, b + n = 8 → S1.1 (m + 8) = (fun i => if i < b then 0 else (V s).2.1 i) → rowf (S1.1 (m + 4)) 240 = (wall (V s).2.1 b (V s).1).1 → S1.1 (m + 6) = (wall (V s).2.1 b (V s).1).2 → MI S1 m V → exW m S S1 → J S1 72 [some (.ref m), some (.int (nI s)), some (.int (nI b)), o3, o4] [] := by
    intro n
    induction n with
    | zero =>
      intro b S1 o3 o4 hb h8 h4 h6 hV1 hx1
      have hb8 : b = 8 := by omega
      subst hb8
      refine r_iload_n X d_Model_weigh_72 (by rfl) ?_
      refine r_bipush X (x := (nI 8)) d_Model_weigh_73 (by decide) ?_
      refine r_icmp_geN X d_Model_weigh_75 (tgt := 185) (by decide) (by omega) (by omega) (fun hc => ?_) (fun hc => ?_)
      · exact hR _ _ _ d_Model_weigh_185 ⟨rfl, hV1, h4, h6, hx1⟩
      · omega
    | succ n ih =>
      intro b S1 o3 o4 hb h8 h4 h6 hV1 hx1
      have hok := wall_ok (e := (V s).2.1) (ws.1.mono (m := 80) (by omega)) b
      have be := ws.2.1 b
      have inner : ∀ j S2 W u o3 o4, j ≤ 3 → S2.1 (m + 8) = va_up (lfb (V s).2.1 b) b j → rowf (S2.1 (m + 4)) 240 = W → S2.1 (m + 6) = u → okP 80 W → (∀ i, u i < 10007) → wch (V s).2.1 b j W u = wall (V s).2.1 (b + 1) (V s).1 → MI S2 m V → exW m S S2 → J S2 78 [some (.ref m), some (.int (nI s)), some (.int (nI b)), o3, o4] [] := by
        intro j
        induction j with
        | zero =>
          intro S2 W u o3 o4 hj k8 k4 k6 hW hu hwc hV2 hx2
          refine r_aload_n X d_Model_weigh_78 (by rfl) ?_
          refine r_get X lf_Model_31 d_Model_weigh_79 (by assumption) (by rfl) ?_
          refine r_iload_n X d_Model_weigh_82 (by rfl) ?_
          refine r_iald X d_Model_weigh_83 (by assumption) (by omega) (by omega) ?_
          rw [k8, va_up_s]
          refine r_if_leN X d_Model_weigh_84 (tgt := 179) (by decide) (by omega) (fun hc => ?_) (fun hc => ?_)
          · refine r_iincN X 1 d_Model_weigh_179 (by rfl) (by decide) (by decide) ?_
            refine r_goto X d_Model_weigh_182 (tgt := 72) (by decide) ?_
            refine ih (b + 1) S2 _ _ (by omega) ?_ ?_ ?_ hV2 hx2
            · rw [k8]
              funext i
              by_cases e : i = b
              · rw [e, va_up_s, if_pos (by omega)]
              · rw [va_up_n e]
                unfold lfb
                by_cases e2 : i < b
                · rw [if_pos (by omega), if_pos (by omega)]
                · rw [if_neg (by omega), if_neg (by omega)]
            · rw [k4, ← hwc]; rfl
            · rw [k6, ← hwc]; rfl
          · omega
        | succ j ihj =>
          intro S2 W u o3 o4 hj k8 k4 k6 hW hu hwc hV2 hx2
          have hoth : va_up (va_up (lfb (V s).2.1 b) b (j + 1)) b (va_up (lfb (V s).2.1 b) b (j + 1) b - (j + 1)) = lfb (V s).2.1 b := by
            rw [va_up_s, Nat.sub_self, va_up_up]
            have h := va_up_id (lfb (V s).2.1 b) b
            rw [show lfb (V s).2.1 b b = 0 by unfold lfb; rw [if_pos (Nat.le_refl b)]] at h
            exact h
          have hL : ∀ i, va_up (lfb (V s).2.1 b) b (j + 1) i < 100 := by
            intro i
            have := ws.2.1 i
            unfold va_up lfb
            split
            · omega
            · split <;> omega
          refine r_aload_n X d_Model_weigh_78 (by rfl) ?_
          refine r_get X lf_Model_31 d_Model_weigh_79 (by assumption) (by rfl) ?_
          refine r_iload_n X d_Model_weigh_82 (by rfl) ?_
          refine r_iald X d_Model_weigh_83 (by assumption) (by omega) (by omega) ?_
          rw [k8, va_up_s]
          refine r_if_leN X d_Model_weigh_84 (tgt := 179) (by decide) (by omega) (fun hc => ?_) (fun hc => ?_)
          · omega
          · refine r_aload_n X d_Model_weigh_87 (by rfl) ?_
            refine r_iload_n X d_Model_weigh_88 (by rfl) ?_
            refine r_aload_n X d_Model_weigh_89 (by rfl) ?_
            refine r_get X lf_Model_31 d_Model_weigh_90 (by assumption) (by rfl) ?_
            refine r_iload_n X d_Model_weigh_93 (by rfl) ?_
            refine r_iald X d_Model_weigh_94 (by assumption) (by omega) (by omega) ?_
            rw [k8, va_up_s]
            refine r_cVv X lv_Model_106 (m_others (b := b) (e := j + 1) hm0 (by omega) hL (by rw [va_up_s]; omega) k8 hV2.2) (by assumption) (by decide) rfl (Nat.le_of_ble_eq_true rfl) d_Model_weigh_95 rfl (fun S3 h3 => ?_)
            rw [hoth] at h3
            have h3 : S3 = arS S2 (m + 4) (rst (S2.1 (m + 4)) 160 (opr (V s).2.1 b)) := h3
            have ho3 : Out S2 S3 (m + 4) 1 := by rw [h3]; exact Out.ar (by omega) (by omega)
            have f3 : S3.1 (m + 4) = rst (S2.1 (m + 4)) 160 (opr (V s).2.1 b) := by rw [h3, arS_1]
            have hg3 : okG (S3.1 (m + 4)) := by rw [f3]; exact hV2.2.rst 160 (opr_ok _ _)
            have p3 : rowf (S3.1 (m + 4)) 160 = opr (V s).2.1 b := by rw [f3]; exact rowf_rst (opr_ok _ _)
            have w3 : rowf (S3.1 (m + 4)) 240 = W := by rw [f3, rowf_ne (by omega)]; exact k4
            refine r_aload_n X d_Model_weigh_98 (by rfl) ?_
            refine r_sipush X (x := (nI 160)) d_Model_weigh_99 (by decide) ?_
            refine r_iload_n X d_Model_weigh_102 (by rfl) ?_
            refine r_ineg X d_Model_weigh_103 ?_
            refine r_cVi X lv_Model_59 (m_at (p := 160) (x := -nI b) hm0 (by omega) hg3) (by assumption) (by decide) rfl (Nat.le_of_ble_eq_true rfl) d_Model_weigh_104 rfl (fun S4 r h4' => ?_)
            obtain ⟨hxs, rfl⟩ := h4'
            replace hxs := hxs.symm
            subst hxs
            rw [p3, em_neg (by omega)]
            refine r_istore_n X d_Model_weigh_107 (by decide) ?_
            refine r_aload_n X d_Model_weigh_108 (by rfl) ?_
            refine r_sipush X (x := (nI 240)) d_Model_weigh_109 (by decide) ?_
            refine r_iload_n X d_Model_weigh_112 (by rfl) ?_
            refine r_ineg X d_Model_weigh_113 ?_
            refine r_cVi X lv_Model_59 (m_at (p := 240) (x := -nI b) hm0 (by omega) hg3) (by assumption) (by decide) rfl (Nat.le_of_ble_eq_true rfl) d_Model_weigh_114 rfl (fun S4 r h4' => ?_)
            obtain ⟨hxs, rfl⟩ := h4'
            replace hxs := hxs.symm
            subst hxs
            rw [w3, em_neg (by omega)]
            refine r_iload_n X d_Model_weigh_117 (by rfl) ?_
            refine r_cSi X ls_Model_109 (m_quotient (hn_lt W ((10007 - b) % 10007) 80 0) (hn_lt (opr (V s).2.1 b) ((10007 - b) % 10007) 80 0)) (by decide) rfl (Nat.le_of_ble_eq_true rfl) d_Model_weigh_118 rfl (fun S4 r h4' => ?_)
            obtain ⟨hxs, rfl⟩ := h4'
            replace hxs := hxs.symm
            subst hxs
            have ew : hn W ((10007 - b) % 10007) 80 0 * iv (hn (opr (V s).2.1 b) ((10007 - b) % 10007) 80 0) % 10007 = wgw (V s).2.1 b W := rfl
            rw [ew]
            clear ew
            have hw7 : wgw (V s).2.1 b W < 10007 := Nat.mod_lt _ (by decide)
            have l3 : S3.1 (m + 8) b = j + 1 := by rw [ho3.a1 (by omega), k8, va_up_s]
            have u3 : S3.1 (m + 6) = u := by rw [ho3.a1 (by omega)]; exact k6
            have hV3 : RepM S3 m V := hV2.1.ex (ho3.ex (P := fun a => a = m + 4) (fun a h1 h2 => by omega)) (by omega) (by omega) (by omega)
            refine r_istore X d_Model_weigh_121 (by decide) ?_
            refine r_aload_n X d_Model_weigh_123 (by rfl) ?_
            refine r_get X lf_Model_25 d_Model_weigh_124 (by assumption) (by rfl) ?_
            refine r_iconst X (x := (nI 3)) d_Model_weigh_127 (by decide) ?_
            refine r_iload_n X d_Model_weigh_128 (by rfl) ?_
            first | refine r_imulN X d_Model_weigh_129 ?_ | refine r_imul X d_Model_weigh_129 ?_
            refine r_aload_n X d_Model_weigh_130 (by rfl) ?_
            refine r_get X lf_Model_31 d_Model_weigh_131 (by assumption) (by rfl) ?_
            refine r_iload_n X d_Model_weigh_134 (by rfl) ?_
            refine r_iald X d_Model_weigh_135 (by assumption) (by omega) (by omega) ?_
            rw [l3]
            first | refine r_iaddN X d_Model_weigh_136 ?_ | refine r_iadd X d_Model_weigh_136 ?_
            refine r_iconst X (x := (nI 1)) d_Model_weigh_137 (by decide) ?_
            first | refine r_isubN X d_Model_weigh_138 (by omega) ?_ | refine r_isub X d_Model_weigh_138 ?_
            refine r_iload X d_Model_weigh_139 (by rfl) ?_
            refine r_iast X d_Model_weigh_141 (by assumption) (by omega) (by omega) ?_
            rw [show 3 * b + (j + 1) - 1 = 3 * b + j by omega]
            have f5 : (arS S3 (m + 6) (va_up (S3.1 (m + 6)) (3 * b + j) (wgw (V s).2.1 b W))).1 (m + 6) = va_up u (3 * b + j) (wgw (V s).2.1 b W) := by rw [arS_1, u3]
            have ho5 : Out S3 (arS S3 (m + 6) (va_up (S3.1 (m + 6)) (3 * b + j) (wgw (V s).2.1 b W))) (m + 6) 1 := Out.ar (by omega) (by omega)
            revert f5 ho5
            generalize arS S3 (m + 6) (va_up (S3.1 (m + 6)) (3 * b + j) (wgw (V s).2.1 b W)) = S5
            intro f5 ho5
            have q5 : S5.1 (m + 4) = S3.1 (m + 4) := ho5.a1 (by omega)
            refine r_aload_n X d_Model_weigh_142 (by rfl) ?_
            refine r_sipush X (x := (nI 240)) d_Model_weigh_143 (by decide) ?_
            refine r_sipush X (x := (nI 160)) d_Model_weigh_146 (by decide) ?_
            refine r_sipush X (x := (nI 10007)) d_Model_weigh_149 (by decide) ?_
            refine r_iload X d_Model_weigh_152 (by rfl) ?_
            first | refine r_isubN X d_Model_weigh_154 (by omega) ?_ | refine r_isub X d_Model_weigh_154 ?_
            refine r_cVv X lv_Model_97 (m_addRow (p := 240) (q := 160) (c := 10007 - wgw (V s).2.1 b W) hm0 (by omega) (by omega) (by omega) (by rw [q5]; exact hg3) (by omega)) (by assumption) (by decide) rfl (Nat.le_of_ble_eq_true rfl) d_Model_weigh_155 rfl (fun S6 h6' => ?_)
            rw [q5, w3, p3] at h6'
            have ho6 : Out S5 S6 (m + 4) 1 := by rw [h6']; exact Out.ar (by omega) (by omega)
            have f6 : S6.1 (m + 4) = rst (S3.1 (m + 4)) 240 (ads 80 (10007 - wgw (V s).2.1 b W) W (opr (V s).2.1 b)) := by rw [h6', arS_1]
            have hg6 : okG (S6.1 (m + 4)) := by rw [f6]; exact hg3.rst 240 (ads_ok 80 _ _ _)
            refine r_aload_n X d_Model_weigh_158 (by rfl) ?_
            refine r_sipush X (x := (nI 240)) d_Model_weigh_159 (by decide) ?_
            refine r_iload_n X d_Model_weigh_162 (by rfl) ?_
            refine r_cVv X lv_Model_62 (m_divide (p := 240) (b := b) hm0 (by omega) hg6 (by omega)) (by assumption) (by decide) rfl (Nat.le_of_ble_eq_true rfl) d_Model_weigh_163 rfl (fun S7 h7 => ?_)
            rw [f6, rowf_rst (ads_ok 80 _ _ _), rst_rst] at h7
            have ho7 : Out S6 S7 (m + 4) 1 := by rw [h7]; exact Out.ar (by omega) (by omega)
            have f7 : S7.1 (m + 4) = rst (S3.1 (m + 4)) 240 (dq 80 (rt b) (ads 80 (10007 - wgw (V s).2.1 b W) W (opr (V s).2.1 b))) := by rw [h7, arS_1]
            have l7' : S7.1 (m + 8) = va_up (lfb (V s).2.1 b) b (j + 1) := by rw [ho7.a1 (by omega), ho6.a1 (by omega), ho5.a1 (by omega), ho3.a1 (by omega)]; exact k8
            have l7 : S7.1 (m + 8) b = j + 1 := by rw [l7', va_up_s]
            refine r_aload_n X d_Model_weigh_166 (by rfl) ?_
            refine r_get X lf_Model_31 d_Model_weigh_167 (by assumption) (by rfl) ?_
            refine r_iload_n X d_Model_weigh_170 (by rfl) ?_
            refine r_dup2 X d_Model_weigh_171 (by rfl) (by rfl) ?_
            refine r_iald X d_Model_weigh_172 (by assumption) (by omega) (by omega) ?_
            rw [l7]
            refine r_iconst X (x := (nI 1)) d_Model_weigh_173 (by decide) ?_
            first | refine r_isubN X d_Model_weigh_174 (by omega) ?_ | refine r_isub X d_Model_weigh_174 ?_
            refine r_iast X d_Model_weigh_175 (by assumption) (by omega) (by omega) ?_
            refine r_goto X d_Model_weigh_176 (tgt := 78) (by decide) ?_
            have ho8 : Out S7 (arS S7 (m + 8) (va_up (S7.1 (m + 8)) b (j + 1 - 1))) (m + 8) 1 := Out.ar (by omega) (by omega)
            have f8 : (arS S7 (m + 8) (va_up (S7.1 (m + 8)) b (j + 1 - 1))).1 (m + 8) = va_up (lfb (V s).2.1 b) b j := by rw [arS_1, l7', va_up_up]; rfl
            revert f8 ho8
            generalize arS S7 (m + 8) (va_up (S7.1 (m + 8)) b (j + 1 - 1)) = S8
            intro ho8 f8
            have g8 : S8.1 (m + 4) = S7.1 (m + 4) := ho8.a1 (by omega)
            refine ihj S8 (dq 80 (rt b) (ads 80 (10007 - wgw (V s).2.1 b W) W (opr (V s).2.1 b))) (va_up u (3 * b + j) (wgw (V s).2.1 b W)) _ _ (by omega) f8 ?_ ?_ (dq_ok 80 _ _) ?_ hwc ⟨?_, ?_⟩ ?_
            · rw [g8, f7]; exact rowf_rst (dq_ok 80 _ _)
            · rw [ho8.a1 (by omega), ho7.a1 (by omega), ho6.a1 (by omega)]; exact f5
            · intro i
              unfold va_up
              split
              · exact hw7
              · exact hu i
            · exact (((hV3.ex (ho5.ex (P := fun a => a = m + 6) (fun a h1 h2 => by omega)) (by omega) (by omega) (by omega)).ex (ho6.ex (P := fun a => a = m + 4) (fun a h1 h2 => by omega)) (by omega) (by omega) (by omega)).ex (ho7.ex (P := fun a => a = m + 4) (fun a h1 h2 => by omega)) (by omega) (by omega) (by omega)).ex (ho8.ex (P := fun a => a = m + 8) (fun a h1 h2 => by omega)) (by omega) (by omega) (by omega)
            · rw [g8, f7]; exact hg3.rst 240 (dq_ok 80 _ _)
            · exact ((((hx2.trans (ho3.ex (fun a h1 h2 => by omega))).trans (ho5.ex (fun a h1 h2 => by omega))).trans (ho6.ex (fun a h1 h2 => by omega))).trans (ho7.ex (fun a h1 h2 => by omega))).trans (ho8.ex (fun a h1 h2 => by omega))
      refine r_iload_n X d_Model_weigh_72 (by rfl) ?_
      refine r_bipush X (x := (nI 8)) d_Model_weigh_73 (by decide) ?_
      refine r_icmp_geN X d_Model_weigh_75 (tgt := 185) (by decide) (by omega) (by omega) (fun hc => ?_) (fun hc => ?_)
      · omega
      · refine inner ((V s).2.1 b) S1 _ _ _ _ be ?_ h4 h6 hok.1 hok.2 rfl hV1 hx1
        rw [h8]
        funext i
        by_cases e : i = b
        · rw [e, va_up_s, if_neg (by omega)]
        · rw [va_up_n e]
          unfold lfb
          by_cases e2 : i < b
          · rw [if_pos (by omega), if_pos (by omega)]
          · rw [if_neg (by omega), if_neg (by omega)]
  refine r_aload_n X d_Model_weigh_0 (by rfl) ?_
  refine r_sipush X (x := (nI 240)) d_Model_weigh_1 (by decide) ?_
  refine r_iload_n X d_Model_weigh_4 (by rfl) ?_
  refine r_cVv X lv_Model_90 (m_load (p := 240) (s := s) hm0 (by omega) hs) (by assumption) (by decide) rfl (Nat.le_of_ble_eq_true rfl) d_Model_weigh_5 rfl (fun S1 h1 => ?_)
  rw [crw_eq hV.1 hs ws.1] at h1
  have ho1 : Out S S1 (m + 4) 1 := by rw [h1]; exact Out.ar (by omega) (by omega)
  have hV1 : RepM S1 m V := hV.1.ex (ho1.ex (P := fun a => a = m + 4) (fun a h1 h2 => by omega)) (by omega) (by omega) (by omega)
  have f1 : S1.1 (m + 4) = rst (S.1 (m + 4)) 240 (V s).1 := by rw [h1, arS_1]
  have loop1 : ∀ n i S2, i + n = 8 → Out S1 S2 (m + 6) 3 → S2.1 (m + 7) = S1.1 (m + 7) → S2.2 = S1.2 → (∀ j, j < i → S2.1 (m + 8) j = (V s).2.1 j) → (∀ j, j < 3 * i → S2.1 (m + 6) j = 0) → J S2 10 [some (.ref m), some (.int (nI s)), some (.int (nI i)), none, none] [] := by
    intro n
    induction n with
    | zero =>
      intro i S2 hi ho2 e7 e2 k8 k6
      refine r_iload_n X d_Model_weigh_10 (by rfl) ?_
      refine r_bipush X (x := (nI 8)) d_Model_weigh_11 (by decide) ?_
      refine r_icmp_geN X d_Model_weigh_13 (tgt := 70) (by decide) (by omega) (by omega) (fun hc => ?_) (fun hc => ?_)
      · refine r_trunc X (f := (V s).2.1) hle (fun j hj => (k8 j (by omega)).symm) ?_
        refine r_trunc X (f := fun _ => 0) hwe (fun j hj => by rw [arS_1n (by omega)]; exact (k6 j (by omega)).symm) ?_
        refine r_iconst X (x := (nI 0)) d_Model_weigh_70 (by decide) ?_
        refine r_istore_n X d_Model_weigh_71 (by decide) ?_
        have x3 : exW m S (arS (arS S2 (m + 8) (V s).2.1) (m + 6) (fun _ => 0)) := by
          intro a ha
          by_cases ha7 : a = m + 7
          · subst ha7
            rw [arS_1n (by omega), arS_1n (by omega), e7, arS_2, arS_2, e2]
            exact ho1 _ (by omega)
          · rw [arS_1n (by omega), arS_1n (by omega), arS_2, arS_2, e2, ho2.a1 (by omega)]
            exact ho1 _ (by omega)
        have g4 : (arS (arS S2 (m + 8) (V s).2.1) (m + 6) (fun _ => 0)).1 (m + 4) = rst (S.1 (m + 4)) 240 (V s).1 := by rw [arS_1n (by omega), arS_1n (by omega), ho2.a1 (by omega)]; exact f1
        refine loop2 8 0 _ _ _ (by omega) ?_ ?_ ?_ ⟨hV.1.ex x3 (by omega) (by omega) (by omega), ?_⟩ x3
        · rw [arS_1n (by omega), arS_1]
          funext j
          rw [if_neg (by omega)]
        · rw [g4]; exact rowf_rst (ws.1.mono (by omega))
        · rw [arS_1]; rfl
        · rw [g4]; exact hV.2.rst 240 (ws.1.mono (by omega))
      · omega
    | succ n ih =>
      intro i S2 hi ho2 e7 e2 k8 k6
      have e1 : S2.1 (m + 2) (8 * s + i) = (V s).2.1 i := by rw [ho2.a1 (by omega)]; exact (hV1 s hs).2.1 i (by omega)
      refine r_iload_n X d_Model_weigh_10 (by rfl) ?_
      refine r_bipush X (x := (nI 8)) d_Model_weigh_11 (by decide) ?_
      refine r_icmp_geN X d_Model_weigh_13 (tgt := 70) (by decide) (by omega) (by omega) (fun hc => ?_) (fun hc => ?_)
      · omega
      · refine r_aload_n X d_Model_weigh_16 (by rfl) ?_
        refine r_get X lf_Model_31 d_Model_weigh_17 (by assumption) (by rfl) ?_
        refine r_iload_n X d_Model_weigh_20 (by rfl) ?_
        refine r_aload_n X d_Model_weigh_21 (by rfl) ?_
        refine r_get X lf_Model_13 d_Model_weigh_22 (by assumption) (by rfl) ?_
        refine r_bipush X (x := (nI 8)) d_Model_weigh_25 (by decide) ?_
        refine r_iload_n X d_Model_weigh_27 (by rfl) ?_
        first | refine r_imulN X d_Model_weigh_28 ?_ | refine r_imul X d_Model_weigh_28 ?_
        refine r_iload_n X d_Model_weigh_29 (by rfl) ?_
        first | refine r_iaddN X d_Model_weigh_30 ?_ | refine r_iadd X d_Model_weigh_30 ?_
        refine r_iald X d_Model_weigh_31 (by assumption) (by omega) (by omega) ?_
        rw [e1]
        refine r_iast X d_Model_weigh_32 (by assumption) (by omega) (by omega) ?_
        refine r_aload_n X d_Model_weigh_33 (by rfl) ?_
        refine r_get X lf_Model_25 d_Model_weigh_34 (by assumption) (by rfl) ?_
        refine r_iconst X (x := (nI 3)) d_Model_weigh_37 (by decide) ?_
        refine r_iload_n X d_Model_weigh_38 (by rfl) ?_
        first | refine r_imulN X d_Model_weigh_39 ?_ | refine r_imul X d_Model_weigh_39 ?_
        refine r_iconst X (x := (nI 0)) d_Model_weigh_40 (by decide) ?_
        refine r_iast X d_Model_weigh_41 (by assumption) (by omega) (by omega) ?_
        refine r_aload_n X d_Model_weigh_42 (by rfl) ?_
        refine r_get X lf_Model_25 d_Model_weigh_43 (by assumption) (by rfl) ?_
        refine r_iconst X (x := (nI 3)) d_Model_weigh_46 (by decide) ?_
        refine r_iload_n X d_Model_weigh_47 (by rfl) ?_
        first | refine r_imulN X d_Model_weigh_48 ?_ | refine r_imul X d_Model_weigh_48 ?_
        refine r_iconst X (x := (nI 1)) d_Model_weigh_49 (by decide) ?_
        first | refine r_iaddN X d_Model_weigh_50 ?_ | refine r_iadd X d_Model_weigh_50 ?_
        refine r_iconst X (x := (nI 0)) d_Model_weigh_51 (by decide) ?_
        refine r_iast X d_Model_weigh_52 (by assumption) (by omega) (by omega) ?_
        refine r_aload_n X d_Model_weigh_53 (by rfl) ?_
        refine r_get X lf_Model_25 d_Model_weigh_54 (by assumption) (by rfl) ?_
        refine r_iconst X (x := (nI 3)) d_Model_weigh_57 (by decide) ?_
        refine r_iload_n X d_Model_weigh_58 (by rfl) ?_
        first | refine r_imulN X d_Model_weigh_59 ?_ | refine r_imul X d_Model_weigh_59 ?_
        refine r_iconst X (x := (nI 2)) d_Model_weigh_60 (by decide) ?_
        first | refine r_iaddN X d_Model_weigh_61 ?_ | refine r_iadd X d_Model_weigh_61 ?_
        refine r_iconst X (x := (nI 0)) d_Model_weigh_62 (by decide) ?_
        refine r_iast X d_Model_weigh_63 (by assumption) (by omega) (by omega) ?_
        refine r_iincN X 1 d_Model_weigh_64 (by rfl) (by decide) (by decide) ?_
        refine r_goto X d_Model_weigh_67 (tgt := 10) (by decide) ?_
        refine ih (i + 1) _ (by omega) ?_ ?_ ?_ ?_ ?_
        · exact (((ho2.trans (Out.ar (by omega) (by omega))).trans (Out.ar (by omega) (by omega))).trans (Out.ar (by omega) (by omega))).trans (Out.ar (by omega) (by omega))
        · rw [arS_1n (by omega), arS_1n (by omega), arS_1n (by omega), arS_1n (by omega)]; exact e7
        · exact e2
        · intro j hj
          rw [arS_1n (by omega), arS_1n (by omega), arS_1n (by omega), arS_1]
          by_cases e : j = i
          · rw [e, va_up_s]
          · rw [va_up_n e]; exact k8 j (by omega)
        · intro j hj
          rw [arS_1, arS_1, arS_1, arS_1n (by omega)]
          by_cases a2 : j = 3 * i + 2
          · rw [a2, va_up_s]
          · rw [va_up_n a2]
            by_cases a1 : j = 3 * i + 1
            · rw [a1, va_up_s]
            · rw [va_up_n a1]
              by_cases a0 : j = 3 * i
              · rw [a0, va_up_s]
              · rw [va_up_n a0]; exact k6 j (by omega)
  refine r_iconst X (x := (nI 0)) d_Model_weigh_8 (by decide) ?_
  refine r_istore_n X d_Model_weigh_9 (by decide) ?_
  exact loop1 8 0 S1 (by omega) (Out.rf _ _ _) rfl rfl (fun j hj => absurd hj (by omega)) (fun j hj => absurd hj (by omega))
def rot (u : Nat → Nat) (back e b : Nat) : Nat → Nat
  | 0 => 0
  | n + 1 => (rot u back e b n + u (3 * (b + 1 + n) + e - 1) * pw back (n + 1)) % 10007
theorem rot_lt (u : Nat → Nat) (back e b n : Nat) : rot u back e b n < 10007 := by
  cases n with
  | zero => exact (by decide : 0 < 10007)
  | succ n => exact Nat.mod_lt _ (by decide)
set_option maxHeartbeats 8000000 in
set_option maxRecDepth 100000 in
theorem m_rootOf {m b e back : Nat} {u : Nat → Nat} (hm : isM G m) (hb : b < 8) (he1 : 1 ≤ e) (he3 : e ≤ 3) (hbk : back < 10007) (hu : ∀ i, u i < 10007) (h6 : S.1 (m + 6) = u) : CT (mkE l D cI cT) G y_Model_rootOf b_Model_rootOf 7 (some .int) 1 [.ref m, .int (nI b), .int (nI e), .int (nI back)] S (Pi (fun S' r => S' = S ∧ r = nI (rot u back e b (7 - b)))) := by
  obtain ⟨hM, hco, hex, hra, hpo, hbe, hwe, hro, hle, hva⟩ := hm
  refine mk_i (by decide) (eok l D cI cT) (by simp [Value.category]) (Nat.le_of_ble_eq_true rfl) (fun J X hR => ?_)
  show J S 0 [some (.ref m), some (.int (nI b)), some (.int (nI e)), some (.int (nI back)), none, none, none] []
  have loop : ∀ t n o6, n + t = 7 - b → J S 8 [some (.ref m), some (.int (nI b)), some (.int (nI e)), some (.int (nI back)), some (.int (nI (rot u back e b n))), some (.int (nI (b + 1 + n))), o6] [] := by
    intro t
    induction t with
    | zero =>
      intro n o6 hn
      refine r_iload X d_Model_rootOf_8 (by rfl) ?_
      refine r_bipush X (x := (nI 8)) d_Model_rootOf_10 (by decide) ?_
      refine r_icmp_geN X d_Model_rootOf_12 (tgt := 56) (by decide) (by omega) (by omega) (fun hc => ?_) (fun hc => ?_)
      · refine r_iload X d_Model_rootOf_56 (by rfl) ?_
        exact hR _ _ _ _ d_Model_rootOf_58 rfl ⟨_, rfl, rfl, by rw [show 7 - b = n by omega]⟩
      · omega
    | succ t ih =>
      intro n o6 hn
      have hr7 := rot_lt u back e b n
      have hu7 := hu (3 * (b + 1 + n) + e - 1)
      refine r_iload X d_Model_rootOf_8 (by rfl) ?_
      refine r_bipush X (x := (nI 8)) d_Model_rootOf_10 (by decide) ?_
      refine r_icmp_geN X d_Model_rootOf_12 (tgt := 56) (by decide) (by omega) (by omega) (fun hc => ?_) (fun hc => ?_)
      · omega
      · refine r_iload_n X d_Model_rootOf_15 (by rfl) ?_
        refine r_iload X d_Model_rootOf_16 (by rfl) ?_
        refine r_iload_n X d_Model_rootOf_18 (by rfl) ?_
        first | refine r_isubN X d_Model_rootOf_19 (by omega) ?_ | refine r_isub X d_Model_rootOf_19 ?_
        rw [show b + 1 + n - b = n + 1 by omega]
        refine r_cSi X ls_Model_37 (m_raise (b := back) (n := n + 1) hbk (by omega)) (by decide) rfl (Nat.le_of_ble_eq_true rfl) d_Model_rootOf_20 rfl (fun S2 r h2 => ?_)
        obtain ⟨hxs, rfl⟩ := h2
        replace hxs := hxs.symm
        subst hxs
        have hml := mul_bd hu7 (pwl back (n + 1))
        refine r_istore X d_Model_rootOf_23 (by decide) ?_
        refine r_iload X d_Model_rootOf_25 (by rfl) ?_
        refine r_aload_n X d_Model_rootOf_27 (by rfl) ?_
        refine r_get X lf_Model_25 d_Model_rootOf_28 (by assumption) (by rfl) ?_
        refine r_iconst X (x := (nI 3)) d_Model_rootOf_31 (by decide) ?_
        refine r_iload X d_Model_rootOf_32 (by rfl) ?_
        first | refine r_imulN X d_Model_rootOf_34 ?_ | refine r_imul X d_Model_rootOf_34 ?_
        refine r_iload_n X d_Model_rootOf_35 (by rfl) ?_
        first | refine r_iaddN X d_Model_rootOf_36 ?_ | refine r_iadd X d_Model_rootOf_36 ?_
        refine r_iconst X (x := (nI 1)) d_Model_rootOf_37 (by decide) ?_
        first | refine r_isubN X d_Model_rootOf_38 (by omega) ?_ | refine r_isub X d_Model_rootOf_38 ?_
        refine r_iald X d_Model_rootOf_39 (by assumption) (by omega) (by omega) ?_
        rw [h6]
        refine r_iload X d_Model_rootOf_40 (by rfl) ?_
        first | refine r_imulN X d_Model_rootOf_42 ?_ | refine r_imul X d_Model_rootOf_42 ?_
        first | refine r_iaddN X d_Model_rootOf_43 ?_ | refine r_iadd X d_Model_rootOf_43 ?_
        refine r_sipush X (x := (nI 10007)) d_Model_rootOf_44 (by decide) ?_
        refine r_iremN X d_Model_rootOf_47 (by decide) (by decide) (by omega) ?_
        refine r_istore X d_Model_rootOf_48 (by decide) ?_
        refine r_iincN X 1 d_Model_rootOf_50 (by rfl) (by decide) (by decide) ?_
        refine r_goto X d_Model_rootOf_53 (tgt := 8) (by decide) ?_
        exact ih (n + 1) _ (by omega)
  refine r_iconst X (x := (nI 0)) d_Model_rootOf_0 (by decide) ?_
  refine r_istore X d_Model_rootOf_1 (by decide) ?_
  refine r_iload_n X d_Model_rootOf_3 (by rfl) ?_
  refine r_iconst X (x := (nI 1)) d_Model_rootOf_4 (by decide) ?_
  first | refine r_iaddN X d_Model_rootOf_5 ?_ | refine r_iadd X d_Model_rootOf_5 ?_
  refine r_istore X d_Model_rootOf_6 (by decide) ?_
  exact loop (7 - b) 0 _ (by omega)
end MA
