section S3
variable {l : Launch} {D : va_G} {cI cT : ClassId} {G : Gm} {S : Sg}
def ptr (zi : Nat) (w : Nat → Nat → Nat) : Nat → Nat → Nat
  | 0, _ => 0
  | d + 1, k => (w (7 - d) k + ptr zi w d k) % 10007 * zi % 10007
theorem ptr_lt (zi : Nat) (w : Nat → Nat → Nat) (d k : Nat) : ptr zi w d k < 10007 := by
  cases d with
  | zero => exact (by decide : 0 < 10007)
  | succ d => exact Nat.mod_lt _ (by decide)
def wgc (e N : Nat → Nat) (b k : Nat) : Nat := wgt e b k (xpn e b N)
theorem wgc_lt (e N : Nat → Nat) (b k : Nat) : wgc e N b k < 10007 := by
  unfold wgc wgt
  split
  · exact (xpn_ok e b N).1 _
  · decide
def pfn (zi : Nat) (w : Nat → Nat → Nat) : Nat → Nat := fun j => if j < 24 then ptr zi w (7 - j / 3) (j % 3 + 1) else 0
theorem pfn_ok (zi : Nat) (w : Nat → Nat → Nat) : okP 24 (pfn zi w) := by
  refine ⟨fun i => ?_, fun i hi => ?_⟩
  · unfold pfn
    split
    · exact ptr_lt _ _ _ _
    · decide
  · unfold pfn
    rw [if_neg (by omega)]
theorem pfn_at {zi : Nat} {w : Nat → Nat → Nat} {b k : Nat} (hb : b < 8) (hk1 : 1 ≤ k) (hk : k ≤ 3) : pfn zi w (b * 3 + k - 1) = ptr zi w (7 - b) k := by
  unfold pfn
  rw [if_pos (by omega), show (b * 3 + k - 1) / 3 = b by omega, show (b * 3 + k - 1) % 3 + 1 = k by omega]
def rmw (zi : Nat) (w : Nat → Nat → Nat) : Nat → Nat := fun i => if i < 3 then (w 0 (3 - i) + ptr zi w 7 (3 - i)) % 10007 else 0
theorem rmw_ok (zi : Nat) (w : Nat → Nat → Nat) : okP 64 (rmw zi w) := by
  refine ⟨fun i => ?_, fun i hi => ?_⟩
  · unfold rmw
    split
    · exact Nat.mod_lt _ (by decide)
    · decide
  · unfold rmw
    rw [if_neg (by omega)]
def e30 : Nat → Nat := fun i => if i = 0 then 3 else 0
theorem e30_ok : okE e30 := ⟨fun i => by unfold e30; split <;> decide, fun i hi => by unfold e30; rw [if_neg (by omega)]⟩
set_option maxHeartbeats 8000000 in
set_option maxRecDepth 100000 in
theorem c_splitPoles {s u m t z y : Nat} {N e : Nat → Nat} (hs : isS G s) (hu : isT G u m) (ht : isT G t 64) (htu : t ≠ u) (hN : okP m N) (hE : okE e) (hz : z < 10007) (hu1 : tIs S u m N e z) : CT (mkE l D cI cT) G y_Split_splitPoles b_Split_splitPoles 7 none 4 [.ref s, .ref u, .ref t] S (Pv (fun S' => tIs S' t 64 (nrN 64 (rmw (iv z) (wgc e N)) e30) (nrE 64 (rmw (iv z) (wgc e N)) e30) (nrZ 64 (rmw (iv z) (wgc e N)) z) ∧ S'.1 (s + 2) = pfn (iv z) (wgc e N) ∧ Ex (fun a => (s + 1 ≤ a ∧ a < s + 5) ∨ (t ≤ a ∧ a < t + 4)) S S')) := by
  have hs0 := hs
  have hu0 := hu
  have ht0 := ht
  have hsu := hu.sepS hs
  have hst := ht.sepS hs
  have htu' := ht.sep hu htu
  obtain ⟨hS, ha1, ha2, hpr, hps, hpw⟩ := hs
  obtain ⟨hU, hpu, hue⟩ := hu
  obtain ⟨hT, hpt, hte⟩ := ht
  have hpt0 := hpt
  obtain ⟨hqt, hat, -, -⟩ := hpt
  refine mk_v (by decide) (eok l D cI cT) (by simp [Value.category]) (Nat.le_of_ble_eq_true rfl) (fun J X hR => ?_)
  show J S 0 [some (.ref s), some (.ref u), some (.ref t), none, none, none, none] []
  have hzi := iv_lt z
  have hw := wgc_lt e N
  have hpl := ptr_lt (iv z) (wgc e N)
  have main : ∀ b1 v w S2, b1 ≤ 8 → (∀ b k, b < 8 → 1 ≤ k → k ≤ 3 → S2.1 (s + 2) (b * 3 + k - 1) = if b1 ≤ b + 1 then ptr (iv z) (wgc e N) (7 - b) k else 0) → S2.1 (t + 2) = (if b1 = 0 then rmw (iv z) (wgc e N) else fun _ => 0) → S2.1 (t + 3) = e30 → S2.2 t = nI z → Ex (fun a => (s + 1 ≤ a ∧ a < s + 5) ∨ (t ≤ a ∧ a < t + 4)) S S2 → J S2 39 [some (.ref s), some (.ref u), some (.ref t), some (.int (nI (iv z))), some (.int (tI b1)), v, w] [] := by
    intro b1
    induction b1 with
    | zero =>
      intro v w S2 hb1 hpar hrow hexp hz2 hx
      refine r_iload X d_Split_splitPoles_39 (by rfl) ?_
      refine r_if_ltT X d_Split_splitPoles_41 (tgt := 144) (by decide) (by omega) (fun hc => ?_) (fun uu hc => ?_)
      · refine r_trunc X (f := pfn (iv z) (wgc e N)) ha2 (fun i hi => ?_) ?_
        · have := hpar (i / 3) (i % 3 + 1) (by omega) (by omega) (by omega)
          rw [show i / 3 * 3 + (i % 3 + 1) - 1 = i by omega, if_pos (by omega)] at this
          rw [this]
          unfold pfn
          rw [if_pos hi]
        · have ho3 : Out S2 (arS S2 (s + 2) (pfn (iv z) (wgc e N))) (s + 2) 1 := Out.ar (by omega) (by omega)
          have e3 : (arS S2 (s + 2) (pfn (iv z) (wgc e N))).1 (s + 2) = pfn (iv z) (wgc e N) := arS_1 _ _ _
          revert ho3 e3
          generalize arS S2 (s + 2) (pfn (iv z) (wgc e N)) = S3
          intro ho3 e3
          have hrow3 : S3.1 (t + 1 + 1) = rmw (iv z) (wgc e N) := by rw [show t + 1 + 1 = t + 2 by omega, ho3.a1 (by omega), hrow, if_pos rfl]
          refine r_aload_n X d_Split_splitPoles_144 (by rfl) ?_
          refine r_get X lf_Split_59 d_Split_splitPoles_145 (by assumption) (by rfl) ?_
          refine r_cVv X lv_Split_100 (c_trim hpt0 (fun i _ => by rw [hrow3]; exact (rmw_ok _ _).1 i)) (by assumption) (by decide) rfl (Nat.le_of_ble_eq_true rfl) d_Split_splitPoles_148 rfl (fun S4 h4 => ?_)
          have hp4 : pIs S4 (t + 1) 64 (rmw (iv z) (wgc e N)) := by rw [h4]; exact pIs_trim hrow3
          have ho4 : Out S3 S4 (t + 1) 1 := by rw [h4]; exact Out.fd (by omega) (by omega)
          have ht4 : tIs S4 t 64 (rmw (iv z) (wgc e N)) e30 z := ⟨hp4, by rw [ho4.a1 (by omega), ho3.a1 (by omega)]; exact hexp, by rw [ho4.a2 (by omega), ho3.a2 (by omega)]; exact hz2⟩
          refine r_aload_n X d_Split_splitPoles_151 (by rfl) ?_
          refine r_cVv X lv_Split_103 (c_normalise ht0 (rmw_ok _ _) e30_ok ht4) (by assumption) (by decide) rfl (Nat.le_of_ble_eq_true rfl) d_Split_splitPoles_152 rfl (fun S5 h5 => ?_)
          obtain ⟨h5, ho5⟩ := h5
          refine hR _ _ _ d_Split_splitPoles_155 ⟨rfl, h5, ?_, ?_⟩
          · rw [ho5.a1 (by omega), ho4.a1 (by omega)]
            exact e3
          · exact ((hx.trans (ho3.ex (fun a h1 h2 => by omega))).trans (ho4.ex (fun a h1 h2 => by omega))).trans (ho5.ex (fun a h1 h2 => by omega))
      · omega
    | succ b ih =>
      intro v w S2 hb1 hpar hrow hexp hz2 hx
      refine r_iload X d_Split_splitPoles_39 (by rfl) ?_
      refine r_if_ltT X d_Split_splitPoles_41 (tgt := 144) (by decide) (by omega) (fun hc => ?_) (fun uu hc => ?_)
      · omega
      · rw [tI_s]
        have hu2 := hu1.ex hx (fun a h1 h2 => by omega)
        rw [if_neg (by omega)] at hrow
        refine r_aload_n X d_Split_splitPoles_44 (by rfl) ?_
        refine r_aload_n X d_Split_splitPoles_45 (by rfl) ?_
        refine r_iload X d_Split_splitPoles_46 (by rfl) ?_
        refine r_cVv X lv_Split_33 (c_expandAt hs0 hu0 hN hE (by omega) hu2) (by assumption) (by decide) rfl (Nat.le_of_ble_eq_true rfl) d_Split_splitPoles_48 rfl (fun S3 h3 => ?_)
        obtain ⟨h3, hx3⟩ := h3
        have inner : ∀ d k v S4, k + d = 4 → 1 ≤ k → S4.1 (s + 1) = xpn e b N → (∀ b' k', b' < 8 → 1 ≤ k' → k' ≤ 3 → S4.1 (s + 2) (b' * 3 + k' - 1) = if b ≤ b' ∨ (b = b' + 1 ∧ k' < k) then ptr (iv z) (wgc e N) (7 - b') k' else 0) → (S4.1 (t + 2) = if b = 0 then (fun i => if 4 - k ≤ i then rmw (iv z) (wgc e N) i else 0) else fun _ => 0) → S4.1 (t + 3) = e30 → S4.2 t = nI z → Ex (fun a => (s + 1 ≤ a ∧ a < s + 5) ∨ (t ≤ a ∧ a < t + 4)) S S4 → J S4 54 [some (.ref s), some (.ref u), some (.ref t), some (.int (nI (iv z))), some (.int (nI b)), some (.int (nI k)), v] [] := by
          intro d
          induction d with
          | zero =>
            intro k v S4 hk hk1 hser hpar4 hrow4 hexp4 hz4 hx4
            have hk4 : k = 4 := by omega
            subst hk4
            refine r_iload X d_Split_splitPoles_54 (by rfl) ?_
            refine r_iconst X (x := (nI 3)) d_Split_splitPoles_56 (by decide) ?_
            refine r_icmp_gtN X d_Split_splitPoles_57 (tgt := 138) (by decide) (by omega) (by omega) (fun hc => ?_) (fun hc => ?_)
            · refine r_iincD X d_Split_splitPoles_138 (by rfl) (by decide) ?_
              refine r_goto X d_Split_splitPoles_141 (tgt := 39) (by decide) ?_
              refine ih _ _ S4 (by omega) ?_ ?_ hexp4 hz4 hx4
              · intro b' k' h1 h2 h3
                rw [hpar4 b' k' h1 h2 h3]
                by_cases h : b ≤ b' + 1
                · rw [if_pos h, if_pos (by omega)]
                · rw [if_neg h, if_neg (by omega)]
              · rw [hrow4]
                split
                · funext i
                  simp
                · rfl
            · omega
          | succ d ihd =>
            intro k v S4 hk hk1 hser hpar4 hrow4 hexp4 hz4 hx4
            have hu4 := hu1.ex hx4 (fun a h1 h2 => by omega)
            have hwb := hw b k
            have hpb := hpl (7 - b) k
            refine r_iload X d_Split_splitPoles_54 (by rfl) ?_
            refine r_iconst X (x := (nI 3)) d_Split_splitPoles_56 (by decide) ?_
            refine r_icmp_gtN X d_Split_splitPoles_57 (tgt := 138) (by decide) (by omega) (by omega) (fun hc => ?_) (fun hc => ?_)
            · omega
            · refine r_aload_n X d_Split_splitPoles_60 (by rfl) ?_
              refine r_aload_n X d_Split_splitPoles_61 (by rfl) ?_
              refine r_iload X d_Split_splitPoles_62 (by rfl) ?_
              refine r_iload X d_Split_splitPoles_64 (by rfl) ?_
              refine r_cVi X lv_Split_37 (c_expandedWeight (b := b) (k := k) hs0 hu0 hE (by omega) (by omega) hu4 hser) (by assumption) (by decide) rfl (Nat.le_of_ble_eq_true rfl) d_Split_splitPoles_66 rfl (fun S5 r h5 => ?_)
              obtain ⟨rfl, rfl⟩ := h5
              refine r_aload_n X d_Split_splitPoles_69 (by rfl) ?_
              refine r_get X lf_Split_15 d_Split_splitPoles_70 (by assumption) (by rfl) ?_
              refine r_iload X d_Split_splitPoles_73 (by rfl) ?_
              refine r_iload X d_Split_splitPoles_75 (by rfl) ?_
              refine r_cSi X ls_Split_93 (c_partIndex (b := b) (k := k) hk1) (by decide) rfl (Nat.le_of_ble_eq_true rfl) d_Split_splitPoles_77 rfl (fun S6 r h6 => ?_)
              obtain ⟨rfl, rfl⟩ := h6
              have e6 : S6.1 (s + 2) (b * 3 + k - 1) = ptr (iv z) (wgc e N) (7 - b) k := by rw [hpar4 b k (by omega) hk1 (by omega), if_pos (by omega)]
              have e7 : wgt e b k (xpn e b N) = wgc e N b k := rfl
              refine r_iald X d_Split_splitPoles_80 (by assumption) (by omega) (by omega) ?_
              rw [e6, e7]
              first | refine r_iaddN X d_Split_splitPoles_81 ?_ | refine r_iadd X d_Split_splitPoles_81 ?_
              refine r_sipush X (x := (nI 10007)) d_Split_splitPoles_82 (by decide) ?_
              refine r_iremN X d_Split_splitPoles_85 (by decide) (by decide) (by omega) ?_
              refine r_istore X d_Split_splitPoles_86 (by decide) ?_
              refine r_iload X d_Split_splitPoles_88 (by rfl) ?_
              refine r_if_leN X d_Split_splitPoles_90 (tgt := 118) (by decide) (by omega) (fun hc => ?_) (fun hc => ?_)
              · refine r_aload_n X d_Split_splitPoles_118 (by rfl) ?_
                refine r_get X lf_Split_59 d_Split_splitPoles_119 (by assumption) (by rfl) ?_
                refine r_get X lf_Split_97 d_Split_splitPoles_122 (by assumption) (by rfl) ?_
                refine r_iconst X (x := (nI 3)) d_Split_splitPoles_125 (by decide) ?_
                refine r_iload X d_Split_splitPoles_126 (by rfl) ?_
                first | refine r_isubN X d_Split_splitPoles_128 (by omega) ?_ | refine r_isub X d_Split_splitPoles_128 ?_
                refine r_iload X d_Split_splitPoles_129 (by rfl) ?_
                refine r_iast X d_Split_splitPoles_131 (by assumption) (by omega) (by omega) ?_
                refine r_iincN X 1 d_Split_splitPoles_132 (by rfl) (by decide) (by decide) ?_
                refine r_goto X d_Split_splitPoles_135 (tgt := 54) (by decide) ?_
                refine ihd (k + 1) _ _ (by omega) (by omega) ?_ ?_ ?_ ?_ ?_ ?_
                · rw [arS_1n (by omega)]; exact hser
                · intro b' k' h1 h2 h3
                  rw [arS_1n (by omega), hpar4 b' k' h1 h2 h3]
                  by_cases h : b ≤ b'
                  · rw [if_pos (Or.inl h), if_pos (Or.inl h)]
                  · omega
                · rw [show t + 2 = t + 1 + 1 by omega, arS_1]
                  rw [show t + 1 + 1 = t + 2 by omega, hrow4, if_pos hc, if_pos hc]
                  funext i
                  unfold va_up
                  by_cases hi : i = 3 - k
                  · rw [if_pos hi, if_pos (by omega)]
                    unfold rmw
                    rw [if_pos (by omega), hi, show 3 - (3 - k) = k by omega, hc]
                  · rw [if_neg hi]
                    show (if 4 - k ≤ i then rmw (iv z) (wgc e N) i else 0) = _
                    by_cases h2 : 4 - k ≤ i
                    · rw [if_pos h2, if_pos (by omega)]
                    · rw [if_neg h2, if_neg (by omega)]
                · rw [arS_1n (by omega)]; exact hexp4
                · rw [arS_2]; exact hz4
                · exact hx4.trans ((Out.ar (q := t + 2) (w := 1) (by omega) (by omega)).ex (fun a h1 h2 => by omega))
              · have hm := mul_bd (Nat.mod_lt (wgc e N b k + ptr (iv z) (wgc e N) (7 - b) k) (by decide : 0 < 10007)) hzi
                refine r_aload_n X d_Split_splitPoles_93 (by rfl) ?_
                refine r_get X lf_Split_15 d_Split_splitPoles_94 (by assumption) (by rfl) ?_
                refine r_iload X d_Split_splitPoles_97 (by rfl) ?_
                refine r_iconst X (x := (nI 1)) d_Split_splitPoles_99 (by decide) ?_
                first | refine r_isubN X d_Split_splitPoles_100 (by omega) ?_ | refine r_isub X d_Split_splitPoles_100 ?_
                refine r_iload X d_Split_splitPoles_101 (by rfl) ?_
                refine r_cSi X ls_Split_93 (c_partIndex (b := b - 1) (k := k) hk1) (by decide) rfl (Nat.le_of_ble_eq_true rfl) d_Split_splitPoles_103 rfl (fun S7 r h7 => ?_)
                obtain ⟨rfl, rfl⟩ := h7
                refine r_iload X d_Split_splitPoles_106 (by rfl) ?_
                refine r_iload_n X d_Split_splitPoles_108 (by rfl) ?_
                first | refine r_imulN X d_Split_splitPoles_109 ?_ | refine r_imul X d_Split_splitPoles_109 ?_
                refine r_sipush X (x := (nI 10007)) d_Split_splitPoles_110 (by decide) ?_
                refine r_iremN X d_Split_splitPoles_113 (by decide) (by decide) (by omega) ?_
                refine r_iast X d_Split_splitPoles_114 (by assumption) (by omega) (by omega) ?_
                refine r_goto X d_Split_splitPoles_115 (tgt := 132) (by decide) ?_
                refine r_iincN X 1 d_Split_splitPoles_132 (by rfl) (by decide) (by decide) ?_
                refine r_goto X d_Split_splitPoles_135 (tgt := 54) (by decide) ?_
                refine ihd (k + 1) _ _ (by omega) (by omega) ?_ ?_ ?_ ?_ ?_ ?_
                · rw [arS_1n (by omega)]; exact hser
                · intro b' k' h1 h2 h3
                  rw [arS_1]
                  unfold va_up
                  by_cases h : b = b' + 1 ∧ k' = k
                  · obtain ⟨rfl, rfl⟩ := h
                    rw [if_pos (by omega), if_pos (by omega), show 7 - b' = (7 - (b' + 1)) + 1 by omega]
                    show _ = (wgc e N (7 - (7 - (b' + 1))) k' + ptr (iv z) (wgc e N) (7 - (b' + 1)) k') % 10007 * iv z % 10007
                    rw [show 7 - (7 - (b' + 1)) = b' + 1 by omega]
                  · rw [if_neg (by omega), hpar4 b' k' h1 h2 h3]
                    by_cases h5 : b ≤ b' ∨ (b = b' + 1 ∧ k' < k)
                    · rw [if_pos h5, if_pos (by omega)]
                    · rw [if_neg h5, if_neg (by omega)]
                · rw [arS_1n (by omega), hrow4, if_neg (by omega), if_neg (by omega)]
                · rw [arS_1n (by omega)]; exact hexp4
                · rw [arS_2]; exact hz4
                · exact hx4.trans ((Out.ar (q := s + 2) (w := 1) (by omega) (by omega)).ex (fun a h1 h2 => by omega))
        refine r_iconst X (x := (nI 1)) d_Split_splitPoles_51 (by decide) ?_
        refine r_istore X d_Split_splitPoles_52 (by decide) ?_
        refine inner 3 1 _ S3 (by omega) (by omega) h3 ?_ ?_ ?_ ?_ ?_
        · intro b' k' h1 h2 h3
          rw [(hx3 (s + 2) (by omega)).1, hpar b' k' h1 h2 h3]
          by_cases h : b ≤ b'
          · rw [if_pos (by omega), if_pos (Or.inl h)]
          · rw [if_neg (by omega), if_neg (by omega)]
        · rw [(hx3 (t + 2) (by omega)).1, hrow]
          split
          · funext i
            unfold rmw
            split
            · rw [if_neg (by omega)]
            · rfl
          · rfl
        · rw [(hx3 (t + 3) (by omega)).1]; exact hexp
        · rw [(hx3 t (by omega)).2]; exact hz2
        · exact hx.trans (hx3.mono (fun a h => by omega))
  refine r_aload_n X d_Split_splitPoles_0 (by rfl) ?_
  refine r_get X lf_Split_49 d_Split_splitPoles_1 (by assumption) (by rfl) ?_
  rw [hu1.2.2]
  refine r_cSi X ls_Split_81 (c_invert hz) (by decide) rfl (Nat.le_of_ble_eq_true rfl) d_Split_splitPoles_4 rfl (fun S1 r h1 => ?_)
  obtain ⟨rfl, rfl⟩ := h1
  refine r_istore_n X d_Split_splitPoles_7 (by decide) ?_
  refine r_aload_n X d_Split_splitPoles_8 (by rfl) ?_
  refine r_cVv X lv_Split_84 (c_tclear ht0) (by assumption) (by decide) rfl (Nat.le_of_ble_eq_true rfl) d_Split_splitPoles_9 rfl (fun S2 h2 => ?_)
  obtain ⟨h2, ho2⟩ := h2
  have hu2 := hu1.out ho2 (by omega)
  refine r_aload_n X d_Split_splitPoles_12 (by rfl) ?_
  refine r_aload_n X d_Split_splitPoles_13 (by rfl) ?_
  refine r_get X lf_Split_49 d_Split_splitPoles_14 (by assumption) (by rfl) ?_
  rw [hu2.2.2]
  refine r_put X lp_Split_49 d_Split_splitPoles_17 (by assumption) (by rfl) (Nat.le_of_ble_eq_true rfl) ?_
  refine r_aload_n X d_Split_splitPoles_20 (by rfl) ?_
  refine r_get X lf_Split_70 d_Split_splitPoles_21 (by assumption) (by rfl) ?_
  refine r_iconst X (x := (nI 0)) d_Split_splitPoles_24 (by decide) ?_
  refine r_iconst X (x := (nI 3)) d_Split_splitPoles_25 (by decide) ?_
  refine r_iast X d_Split_splitPoles_26 (by assumption) (by omega) (by omega) ?_
  refine r_aload_n X d_Split_splitPoles_27 (by rfl) ?_
  refine r_get X lf_Split_15 d_Split_splitPoles_28 (by assumption) (by rfl) ?_
  refine r_iconst X (x := (nI 0)) d_Split_splitPoles_31 (by decide) ?_
  have ho3 : Out S2 (arS (fdS S2 t (nI z)) (t + 3) (va_up ((fdS S2 t (nI z)).1 (t + 3)) 0 3)) t 4 := (Out.fd (by omega) (by omega)).trans (Out.ar (by omega) (by omega))
  have e3 : (arS (fdS S2 t (nI z)) (t + 3) (va_up ((fdS S2 t (nI z)).1 (t + 3)) 0 3)).1 (t + 3) = e30 := by
    rw [arS_1, fdS_1, h2.2.1]
    rfl
  have e4 : (arS (fdS S2 t (nI z)) (t + 3) (va_up ((fdS S2 t (nI z)).1 (t + 3)) 0 3)).2 t = nI z := by rw [arS_2, fdS_2]
  have e5 : (arS (fdS S2 t (nI z)) (t + 3) (va_up ((fdS S2 t (nI z)).1 (t + 3)) 0 3)).1 (t + 2) = fun _ => 0 := by
    rw [arS_1n (by omega), fdS_1]
    exact h2.1.1
  revert ho3 e3 e4 e5
  generalize arS (fdS S2 t (nI z)) (t + 3) (va_up ((fdS S2 t (nI z)).1 (t + 3)) 0 3) = S3
  intro ho3 e3 e4 e5
  refine r_cSv X ls_Split_87 (c_fill (v := 0) ha2 (by omega)) (by decide) rfl (Nat.le_of_ble_eq_true rfl) d_Split_splitPoles_32 rfl (fun S4 h4 => ?_)
  have ho4 : Out S3 S4 (s + 2) 1 := by rw [h4]; exact Out.ar (by omega) (by omega)
  refine r_bipush X (x := (tI 8)) d_Split_splitPoles_35 (by decide) ?_
  refine r_istore X d_Split_splitPoles_37 (by decide) ?_
  refine main 8 _ _ S4 (by omega) ?_ ?_ ?_ ?_ ?_
  · intro b k h1 h2 h3
    rw [h4, arS_1]
    by_cases h : 8 ≤ b + 1
    · rw [if_pos h, show 7 - b = 0 by omega]
      split <;> rfl
    · rw [if_neg h]
      split <;> rfl
  · rw [if_neg (by omega), ho4.a1 (by omega)]
    exact e5
  · rw [ho4.a1 (by omega)]; exact e3
  · rw [ho4.a2 (by omega)]; exact e4
  · exact ((ho2.ex (fun a h1 h2 => by omega)).trans (ho3.ex (fun a h1 h2 => by omega))).trans (ho4.ex (fun a h1 h2 => by omega))
def gEx (P : Nat → Nat) (b : Nat) : Nat → Nat
  | 0 => 0
  | k + 1 => if P (b * 3 + (k + 1) - 1) ≠ 0 then k + 1 else gEx P b k
theorem gEx_le (P : Nat → Nat) (b k : Nat) : gEx P b k ≤ k := by
  induction k with
  | zero => exact Nat.le_refl _
  | succ k ih =>
    unfold gEx
    split <;> omega
def gE (P : Nat → Nat) : Nat → Nat := fun b => if b < 8 then gEx P b 3 else 0
theorem gE_ok (P : Nat → Nat) : okE (gE P) := by
  refine ⟨fun i => ?_, fun i hi => ?_⟩
  · unfold gE
    split
    · have := gEx_le P i 3; omega
    · decide
  · unfold gE
    rw [if_neg (by omega)]
theorem gE_3 (P : Nat → Nat) (i : Nat) : gE P i ≤ 3 := by
  unfold gE
  split
  · exact gEx_le P i 3
  · decide
def gk (P e : Nat → Nat) (b : Nat) : Nat → (Nat → Nat) → Nat → Nat
  | 0, R => R
  | k + 1, R => ads 64 1 (gk P e b k R) (wd 64 (va_up e b (e b - (k + 1))) 8 (lin 0 (P (b * 3 + (k + 1) - 1))))
def gb (P e : Nat → Nat) : Nat → (Nat → Nat) → Nat → Nat
  | 0, R => R
  | b + 1, R => gk P e b (e b) (gb P e b R)
theorem gk_ok {P e : Nat → Nat} {b : Nat} {R : Nat → Nat} (h : okP 64 R) : ∀ k, okP 64 (gk P e b k R)
  | 0 => h
  | k + 1 => ads_ok 64 1 _ _
theorem gb_ok {P e : Nat → Nat} {R : Nat → Nat} (h : okP 64 R) : ∀ b, okP 64 (gb P e b R)
  | 0 => h
  | b + 1 => gk_ok (gb_ok h b) _
def gth (P Xw : Nat → Nat) : Nat → Nat := gb P (gE P) 8 (wd 64 (gE P) 8 Xw)
set_option maxHeartbeats 8000000 in
set_option maxRecDepth 100000 in
theorem c_gather {s t z : Nat} {P Xw : Nat → Nat} (hs : isS G s) (ht : isT G t 64) (hP : okP 24 P) (hX : okP 64 Xw) (hz : z < 10007) (hp1 : S.1 (s + 2) = P) (hw1 : S.1 (s + 8) = Xw) : CT (mkE l D cI cT) G y_Split_gather b_Split_gather 5 none 4 [.ref s, .int (nI z), .ref t] S (Pv (fun S' => tIs S' t 64 (nrN 64 (gth P Xw) (gE P)) (nrE 64 (gth P Xw) (gE P)) (nrZ 64 (gth P Xw) z) ∧ Ex (fun a => (s + 5 ≤ a ∧ a < s + 7) ∨ (t ≤ a ∧ a < t + 4)) S S')) := by
  have hs0 := hs
  have ht0 := ht
  have hst := ht.sepS hs
  obtain ⟨hS, ha1, ha2, hpr, hps, hpw⟩ := hs
  have hps0 := hps
  have hpw0 := hpw
  obtain ⟨hqs, has, -, -⟩ := hps
  obtain ⟨hqw, haw, -, -⟩ := hpw
  obtain ⟨hT, hpt, hte⟩ := ht
  have hpt0 := hpt
  obtain ⟨hqt, hat, -, -⟩ := hpt
  refine mk_v (by decide) (eok l D cI cT) (by simp [Value.category]) (Nat.le_of_ble_eq_true rfl) (fun J X hR => ?_)
  show J S 0 [some (.ref s), some (.int (nI z)), some (.ref t), none, none] []
  have hcut : cut 64 Xw = Xw := cut_id hX.2
  have hgok := gE_ok P
  have hg3 := gE_3 P
  have third : ∀ j b v S2 R, b + j = 8 → R = gb P (gE P) b (wd 64 (gE P) 8 Xw) → tIs S2 t 64 R (gE P) z → S2.1 (s + 2) = P → Ex (fun a => (s + 5 ≤ a ∧ a < s + 7) ∨ (t ≤ a ∧ a < t + 4)) S S2 → J S2 86 [some (.ref s), some (.int (nI z)), some (.ref t), some (.int (nI b)), v] [] := by
    intro j
    induction j with
    | zero =>
      intro b v S2 R hb hRe ht2 hp2 hx
      have hb8 : b = 8 := by omega
      subst hb8
      have hRok : okP 64 R := by rw [hRe]; exact gb_ok (wd_ok hX 8) 8
      refine r_iload_n X d_Split_gather_86 (by rfl) ?_
      refine r_bipush X (x := (nI 8)) d_Split_gather_87 (by decide) ?_
      refine r_icmp_geN X d_Split_gather_89 (tgt := 163) (by decide) (by omega) (by omega) (fun hc => ?_) (fun hc => ?_)
      · refine r_aload_n X d_Split_gather_163 (by rfl) ?_
        refine r_cVv X lv_Split_103 (c_normalise ht0 hRok hgok ht2) (by assumption) (by decide) rfl (Nat.le_of_ble_eq_true rfl) d_Split_gather_164 rfl (fun S3 h3 => ?_)
        obtain ⟨h3, ho3⟩ := h3
        refine hR _ _ _ d_Split_gather_167 ⟨rfl, ?_, hx.trans (ho3.ex (fun a h1 h2 => by omega))⟩
        rw [hRe] at h3
        exact h3
      · omega
    | succ j ih =>
      intro b v S2 R hb hRe ht2 hp2 hx
      have hgb := hg3 b
      have inner : ∀ d k S3, k + d = gE P b → tIs S3 t 64 (gk P (gE P) b k R) (gE P) z → S3.1 (s + 2) = P → Ex (fun a => (s + 5 ≤ a ∧ a < s + 7) ∨ (t ≤ a ∧ a < t + 4)) S S3 → J S3 95 [some (.ref s), some (.int (nI z)), some (.ref t), some (.int (nI b)), some (.int (nI (k + 1)))] [] := by
        have hRok : okP 64 R := by rw [hRe]; exact gb_ok (wd_ok hX 8) b
        intro d
        induction d with
        | zero =>
          intro k S3 hk ht3 hp3 hx3
          refine r_iload X d_Split_gather_95 (by rfl) ?_
          refine r_aload_n X d_Split_gather_97 (by rfl) ?_
          refine r_get X lf_Split_70 d_Split_gather_98 (by assumption) (by rfl) ?_
          refine r_iload_n X d_Split_gather_101 (by rfl) ?_
          refine r_iald X d_Split_gather_102 (by assumption) (by omega) (by omega) ?_
          rw [ht3.2.1]
          refine r_icmp_gtN X d_Split_gather_103 (tgt := 157) (by decide) (by omega) (by omega) (fun hc => ?_) (fun hc => ?_)
          · refine r_iincN X 1 d_Split_gather_157 (by rfl) (by decide) (by decide) ?_
            refine r_goto X d_Split_gather_160 (tgt := 86) (by decide) ?_
            refine ih (b + 1) _ S3 _ (by omega) ?_ ht3 hp3 hx3
            rw [show k = gE P b by omega, hRe]
            rfl
          · omega
        | succ d ihd =>
          intro k S3 hk ht3 hp3 hx3
          have bP := hP.1 (b * 3 + (k + 1) - 1)
          refine r_iload X d_Split_gather_95 (by rfl) ?_
          refine r_aload_n X d_Split_gather_97 (by rfl) ?_
          refine r_get X lf_Split_70 d_Split_gather_98 (by assumption) (by rfl) ?_
          refine r_iload_n X d_Split_gather_101 (by rfl) ?_
          refine r_iald X d_Split_gather_102 (by assumption) (by omega) (by omega) ?_
          rw [ht3.2.1]
          refine r_icmp_gtN X d_Split_gather_103 (tgt := 157) (by decide) (by omega) (by omega) (fun hc => ?_) (fun hc => ?_)
          · omega
          · refine r_aload_n X d_Split_gather_106 (by rfl) ?_
            refine r_get X lf_Split_27 d_Split_gather_107 (by assumption) (by rfl) ?_
            refine r_iconst X (x := (nI 0)) d_Split_gather_110 (by decide) ?_
            refine r_aload_n X d_Split_gather_111 (by rfl) ?_
            refine r_get X lf_Split_15 d_Split_gather_112 (by assumption) (by rfl) ?_
            refine r_iload_n X d_Split_gather_115 (by rfl) ?_
            refine r_iload X d_Split_gather_116 (by rfl) ?_
            refine r_cSi X ls_Split_93 (c_partIndex (b := b) (k := k + 1) (by omega)) (by decide) rfl (Nat.le_of_ble_eq_true rfl) d_Split_gather_118 rfl (fun S4 r h4 => ?_)
            obtain ⟨rfl, rfl⟩ := h4
            refine r_iald X d_Split_gather_121 (by assumption) (by omega) (by omega) ?_
            rw [hp3]
            refine r_cVv X lv_Split_118 (c_setLinear (a := 0) hps0 (by decide) bP) (by assumption) (by decide) rfl (Nat.le_of_ble_eq_true rfl) d_Split_gather_122 rfl (fun S5 h5 => ?_)
            obtain ⟨h5, ho5⟩ := h5
            have ht5 := ht3.out ho5 (by omega)
            refine r_aload_n X d_Split_gather_125 (by rfl) ?_
            refine r_get X lf_Split_27 d_Split_gather_126 (by assumption) (by rfl) ?_
            refine r_aload_n X d_Split_gather_129 (by rfl) ?_
            refine r_get X lf_Split_70 d_Split_gather_130 (by assumption) (by rfl) ?_
            refine r_iload_n X d_Split_gather_133 (by rfl) ?_
            refine r_iload X d_Split_gather_134 (by rfl) ?_
            have hlin := lin_ok (n := 64) (a := 0) (by decide) bP (by decide)
            refine r_cSv X ls_Split_124 (c_mulPoles (o := b) (k := k + 1) hps0 hte (by omega) hlin hgok h5 ht5.2.1 (by omega) (by omega)) (by decide) rfl (Nat.le_of_ble_eq_true rfl) d_Split_gather_136 rfl (fun S6 h6 => ?_)
            obtain ⟨h6, ho6⟩ := h6
            have ht6 := ht5.out ho6 (by omega)
            refine r_aload_n X d_Split_gather_139 (by rfl) ?_
            refine r_get X lf_Split_59 d_Split_gather_140 (by assumption) (by rfl) ?_
            refine r_aload_n X d_Split_gather_143 (by rfl) ?_
            refine r_get X lf_Split_27 d_Split_gather_144 (by assumption) (by rfl) ?_
            refine r_iconst X (x := (nI 1)) d_Split_gather_147 (by decide) ?_
            refine r_cVv X lv_Split_114 (c_addScaled (c := 1) hpt0 hps0 (by omega) (gk_ok hRok k) (wd_ok hlin 8) ht6.1.1 h6.1 (by decide)) (by assumption) (by decide) rfl (Nat.le_of_ble_eq_true rfl) d_Split_gather_148 rfl (fun S7 h7 => ?_)
            obtain ⟨h7, ho7⟩ := h7
            refine r_iincN X 1 d_Split_gather_151 (by rfl) (by decide) (by decide) ?_
            refine r_goto X d_Split_gather_154 (tgt := 95) (by decide) ?_
            refine ihd (k + 1) S7 (by omega) ⟨h7, ?_, ?_⟩ ?_ ?_
            · rw [ho7.a1 (by omega)]; exact ht6.2.1
            · rw [ho7.a2 (by omega)]; exact ht6.2.2
            · rw [ho7.a1 (by omega), ho6.a1 (by omega), ho5.a1 (by omega)]; exact hp3
            · exact ((hx3.trans (ho5.ex (fun a h1 h2 => by omega))).trans (ho6.ex (fun a h1 h2 => by omega))).trans (ho7.ex (fun a h1 h2 => by omega))
      refine r_iload_n X d_Split_gather_86 (by rfl) ?_
      refine r_bipush X (x := (nI 8)) d_Split_gather_87 (by decide) ?_
      refine r_icmp_geN X d_Split_gather_89 (tgt := 163) (by decide) (by omega) (by omega) (fun hc => ?_) (fun hc => ?_)
      · omega
      · refine r_iconst X (x := (nI 1)) d_Split_gather_92 (by decide) ?_
        refine r_istore X d_Split_gather_93 (by decide) ?_
        exact inner (gE P b) 0 S2 (by omega) ht2 hp2 hx
  have second : ∀ S2, tIs S2 t 64 (fun _ => 0) (gE P) z → S2.1 (s + 2) = P → S2.1 (s + 8) = Xw → Ex (fun a => (s + 5 ≤ a ∧ a < s + 7) ∨ (t ≤ a ∧ a < t + 4)) S S2 → J S2 60 [some (.ref s), some (.int (nI z)), some (.ref t), none, none] [] := by
    intro S2 ht2 hp2 hw2 hx
    refine r_aload_n X d_Split_gather_60 (by rfl) ?_
    refine r_get X lf_Split_59 d_Split_gather_61 (by assumption) (by rfl) ?_
    refine r_aload_n X d_Split_gather_64 (by rfl) ?_
    refine r_get X lf_Split_30 d_Split_gather_65 (by assumption) (by rfl) ?_
    refine r_cVv X lv_Split_62 (c_copyFrom hpt0 hpw0 (by omega) hX hw2) (by assumption) (by decide) rfl (Nat.le_of_ble_eq_true rfl) d_Split_gather_68 rfl (fun S3 h3 => ?_)
    obtain ⟨h3, ho3⟩ := h3
    rw [hcut] at h3
    have e3 : S3.1 (t + 3) = gE P := by rw [ho3.a1 (by omega)]; exact ht2.2.1
    refine r_aload_n X d_Split_gather_71 (by rfl) ?_
    refine r_get X lf_Split_59 d_Split_gather_72 (by assumption) (by rfl) ?_
    refine r_aload_n X d_Split_gather_75 (by rfl) ?_
    refine r_get X lf_Split_70 d_Split_gather_76 (by assumption) (by rfl) ?_
    refine r_iconst X (x := (nI 0)) d_Split_gather_79 (by decide) ?_
    refine r_iconst X (x := (nI 0)) d_Split_gather_80 (by decide) ?_
    refine r_cSv X ls_Split_124 (c_mulPoles (o := 0) (k := 0) hpt0 hte (by omega) hX hgok h3 e3 (by omega) (by omega)) (by decide) rfl (Nat.le_of_ble_eq_true rfl) d_Split_gather_81 rfl (fun S4 h4 => ?_)
    obtain ⟨h4, ho4⟩ := h4
    rw [Nat.sub_zero, va_up_id] at h4
    refine r_iconst X (x := (nI 0)) d_Split_gather_84 (by decide) ?_
    refine r_istore_n X d_Split_gather_85 (by decide) ?_
    refine third 8 0 _ S4 _ (by omega) rfl ⟨h4, ?_, ?_⟩ ?_ ?_
    · rw [ho4.a1 (by omega)]; exact e3
    · rw [ho4.a2 (by omega), ho3.a2 (by omega)]; exact ht2.2.2
    · rw [ho4.a1 (by omega), ho3.a1 (by omega)]; exact hp2
    · exact (hx.trans (ho3.ex (fun a h1 h2 => by omega))).trans (ho4.ex (fun a h1 h2 => by omega))
  have first : ∀ j b v S2, b + j = 8 → tIs S2 t 64 (fun _ => 0) (fun i => if i < b then gE P i else 0) z → S2.1 (s + 2) = P → S2.1 (s + 8) = Xw → Ex (fun a => (s + 5 ≤ a ∧ a < s + 7) ∨ (t ≤ a ∧ a < t + 4)) S S2 → J S2 11 [some (.ref s), some (.int (nI z)), some (.ref t), some (.int (nI b)), v] [] := by
    intro j
    induction j with
    | zero =>
      intro b v S2 hb ht2 hp2 hw2 hx
      refine r_iload_n X d_Split_gather_11 (by rfl) ?_
      refine r_bipush X (x := (nI 8)) d_Split_gather_12 (by decide) ?_
      refine r_icmp_geN X d_Split_gather_14 (tgt := 60) (by decide) (by omega) (by omega) (fun hc => ?_) (fun hc => ?_)
      · refine r_forget X (L' := [some (.ref s), some (.int (nI z)), some (.ref t), none, none]) ?_ (second S2 ?_ hp2 hw2 hx)
        · intro i w hi
          match i with
          | 0 => exact hi
          | 1 => exact hi
          | 2 => exact hi
          | 3 => cases hi
          | 4 => cases hi
          | n + 5 => cases hi
        · rw [show (fun i => if i < b then gE P i else 0) = gE P by
            funext i
            split
            · rfl
            · unfold gE
              rw [if_neg (by omega)]] at ht2
          exact ht2
      · omega
    | succ j ih =>
      intro b v S2 hb ht2 hp2 hw2 hx
      have inner : ∀ d k S3, k + d = 3 → tIs S3 t 64 (fun _ => 0) (va_up (fun i => if i < b then gE P i else 0) b (gEx P b k)) z → S3.1 (s + 2) = P → S3.1 (s + 8) = Xw → Ex (fun a => (s + 5 ≤ a ∧ a < s + 7) ∨ (t ≤ a ∧ a < t + 4)) S S3 → J S3 20 [some (.ref s), some (.int (nI z)), some (.ref t), some (.int (nI b)), some (.int (nI (k + 1)))] [] := by
        intro d
        induction d with
        | zero =>
          intro k S3 hk ht3 hp3 hw3 hx3
          have hk3 : k = 3 := by omega
          subst hk3
          refine r_iload X d_Split_gather_20 (by rfl) ?_
          refine r_iconst X (x := (nI 3)) d_Split_gather_22 (by decide) ?_
          refine r_icmp_gtN X d_Split_gather_23 (tgt := 54) (by decide) (by omega) (by omega) (fun hc => ?_) (fun hc => ?_)
          · refine r_iincN X 1 d_Split_gather_54 (by rfl) (by decide) (by decide) ?_
            refine r_goto X d_Split_gather_57 (tgt := 11) (by decide) ?_
            refine ih (b + 1) _ S3 (by omega) ?_ hp3 hw3 hx3
            have e9 : gEx P b 3 = gE P b := by unfold gE; rw [if_pos (by omega)]
            rw [e9, up_lt (gE P) (fun _ => 0) b] at ht3
            exact ht3
          · omega
        | succ d ihd =>
          intro k S3 hk ht3 hp3 hw3 hx3
          have bP := hP.1 (b * 3 + (k + 1) - 1)
          refine r_iload X d_Split_gather_20 (by rfl) ?_
          refine r_iconst X (x := (nI 3)) d_Split_gather_22 (by decide) ?_
          refine r_icmp_gtN X d_Split_gather_23 (tgt := 54) (by decide) (by omega) (by omega) (fun hc => ?_) (fun hc => ?_)
          · omega
          · refine r_aload_n X d_Split_gather_26 (by rfl) ?_
            refine r_get X lf_Split_15 d_Split_gather_27 (by assumption) (by rfl) ?_
            refine r_iload_n X d_Split_gather_30 (by rfl) ?_
            refine r_iload X d_Split_gather_31 (by rfl) ?_
            refine r_cSi X ls_Split_93 (c_partIndex (b := b) (k := k + 1) (by omega)) (by decide) rfl (Nat.le_of_ble_eq_true rfl) d_Split_gather_33 rfl (fun S4 r h4 => ?_)
            obtain ⟨rfl, rfl⟩ := h4
            refine r_iald X d_Split_gather_36 (by assumption) (by omega) (by omega) ?_
            rw [hp3]
            refine r_if_eqN X d_Split_gather_37 (tgt := 48) (by decide) (by omega) (fun hc => ?_) (fun hc => ?_)
            · refine r_iincN X 1 d_Split_gather_48 (by rfl) (by decide) (by decide) ?_
              refine r_goto X d_Split_gather_51 (tgt := 20) (by decide) ?_
              refine ihd (k + 1) S4 (by omega) ?_ hp3 hw3 hx3
              show tIs S4 t 64 (fun _ => 0) (va_up _ b (if P (b * 3 + (k + 1) - 1) ≠ 0 then k + 1 else gEx P b k)) z
              rw [if_neg (by omega)]
              exact ht3
            · refine r_aload_n X d_Split_gather_40 (by rfl) ?_
              refine r_get X lf_Split_70 d_Split_gather_41 (by assumption) (by rfl) ?_
              refine r_iload_n X d_Split_gather_44 (by rfl) ?_
              refine r_iload X d_Split_gather_45 (by rfl) ?_
              refine r_iast X d_Split_gather_47 (by assumption) (by omega) (by omega) ?_
              refine r_iincN X 1 d_Split_gather_48 (by rfl) (by decide) (by decide) ?_
              refine r_goto X d_Split_gather_51 (tgt := 20) (by decide) ?_
              have ho5 : Out S4 (arS S4 (t + 3) (va_up (S4.1 (t + 3)) b (k + 1))) (t + 3) 1 := Out.ar (by omega) (by omega)
              refine ihd (k + 1) _ (by omega) ⟨ht3.1.out ho5 (by omega), ?_, ?_⟩ ?_ ?_ ?_
              · show _ = va_up _ b (if P (b * 3 + (k + 1) - 1) ≠ 0 then k + 1 else gEx P b k)
                rw [if_pos hc, arS_1, ht3.2.1, va_up_up]
              · rw [arS_2]; exact ht3.2.2
              · rw [arS_1n (by omega)]; exact hp3
              · rw [arS_1n (by omega)]; exact hw3
              · exact hx3.trans (ho5.ex (fun a h1 h2 => by omega))
      refine r_iload_n X d_Split_gather_11 (by rfl) ?_
      refine r_bipush X (x := (nI 8)) d_Split_gather_12 (by decide) ?_
      refine r_icmp_geN X d_Split_gather_14 (tgt := 60) (by decide) (by omega) (by omega) (fun hc => ?_) (fun hc => ?_)
      · omega
      · refine r_iconst X (x := (nI 1)) d_Split_gather_17 (by decide) ?_
        refine r_istore X d_Split_gather_18 (by decide) ?_
        refine inner 3 0 S2 (by omega) ?_ hp2 hw2 hx
        show tIs S2 t 64 (fun _ => 0) (va_up _ b 0) z
        rw [show va_up (fun i => if i < b then gE P i else 0) b 0 = (fun i => if i < b then gE P i else 0) by
          funext i
          unfold va_up
          split
          · next h => rw [if_neg (by omega)]
          · rfl]
        exact ht2
  refine r_aload_n X d_Split_gather_0 (by rfl) ?_
  refine r_cVv X lv_Split_84 (c_tclear ht0) (by assumption) (by decide) rfl (Nat.le_of_ble_eq_true rfl) d_Split_gather_1 rfl (fun S1 h1 => ?_)
  obtain ⟨h1, ho1⟩ := h1
  refine r_aload_n X d_Split_gather_4 (by rfl) ?_
  refine r_iload_n X d_Split_gather_5 (by rfl) ?_
  refine r_put X lp_Split_49 d_Split_gather_6 (by assumption) (by rfl) (Nat.le_of_ble_eq_true rfl) ?_
  refine r_iconst X (x := (nI 0)) d_Split_gather_9 (by decide) ?_
  refine r_istore_n X d_Split_gather_10 (by decide) ?_
  have ho2 : Out S1 (fdS S1 t (nI z)) t 1 := Out.fd (by omega) (by omega)
  refine first 8 0 _ _ (by omega) ⟨h1.1.out ho2 (by omega), ?_, fdS_2 _ _ _⟩ ?_ ?_ ?_
  · rw [fdS_1, h1.2.1]
    funext i
    rw [if_neg (by omega)]
  · rw [fdS_1, ho1.a1 (by omega)]; exact hp1
  · rw [fdS_1, ho1.a1 (by omega)]; exact hw1
  · exact (ho1.ex (fun a h1 h2 => by omega)).trans (ho2.ex (fun a h1 h2 => by omega))
def whl (z : Nat) (e N : Nat → Nat) : Nat → Nat := swh z (tp (qdv e 8 N) 64) (qdv e 8 N) (fun _ => 0)
def spP (z : Nat) (e N : Nat → Nat) : Nat → Nat := pfn (iv z) (wgc e N)
def spN (z : Nat) (e N : Nat → Nat) : Nat → Nat := gth (spP z e N) (whl z e N)
def spR (z : Nat) (e N : Nat → Nat) : Nat → Nat := rmw (iv z) (wgc e N)
set_option maxHeartbeats 4000000 in
set_option maxRecDepth 100000 in
theorem c_split {s u m t r z : Nat} {N e : Nat → Nat} (hs : isS G s) (hu : isT G u m) (ht : isT G t 64) (hr : isT G r 64) (htu : t ≠ u) (hru : r ≠ u) (htr : t ≠ r) (hN : okP 32 N) (hm : 32 ≤ m) (hE : okE e) (hz0 : 0 < z) (hz : z < 10007) (hu1 : tIs S u m N e z) : CT (mkE l D cI cT) G y_Split_split b_Split_split 4 none 5 [.ref s, .ref u, .ref t, .ref r] S (Pv (fun S' => tIs S' t 64 (nrN 64 (spN z e N) (gE (spP z e N))) (nrE 64 (spN z e N) (gE (spP z e N))) (nrZ 64 (spN z e N) z) ∧ tIs S' r 64 (nrN 64 (spR z e N) e30) (nrE 64 (spR z e N) e30) (nrZ 64 (spR z e N) z) ∧ Ex (fun a => (s + 1 ≤ a ∧ a < s + 9) ∨ (t ≤ a ∧ a < t + 4) ∨ (r ≤ a ∧ a < r + 4)) S S')) := by
  have hs0 := hs
  have hsu := hu.sepS hs
  have hst := ht.sepS hs
  have hsr := hr.sepS hs
  have htu' := ht.sep hu htu
  have hru' := hr.sep hu hru
  have htr' := ht.sep hr htr
  obtain ⟨hS, -⟩ := hs
  have hU := hu.1
  refine mk_v (by decide) (eok l D cI cT) (by simp [Value.category]) (Nat.le_of_ble_eq_true rfl) (fun J X hR => ?_)
  show J S 0 [some (.ref s), some (.ref u), some (.ref t), some (.ref r)] []
  refine r_aload_n X d_Split_split_0 (by rfl) ?_
  refine r_aload_n X d_Split_split_1 (by rfl) ?_
  refine r_aload_n X d_Split_split_2 (by rfl) ?_
  refine r_cVv X lv_Split_41 (c_splitPoles (y := 0) hs0 hu hr hru (hN.mono hm) hE hz hu1) (by assumption) (by decide) rfl (Nat.le_of_ble_eq_true rfl) d_Split_split_3 rfl (fun S1 h1 => ?_)
  obtain ⟨h1, hp1, hx1⟩ := h1
  have hu2 := hu1.ex hx1 (fun a h1 h2 => by omega)
  refine r_aload_n X d_Split_split_6 (by rfl) ?_
  refine r_aload_n X d_Split_split_7 (by rfl) ?_
  refine r_cVv X lv_Split_45 (c_splitWhole hs0 hu hN hm hE hz0 hz hu2) (by assumption) (by decide) rfl (Nat.le_of_ble_eq_true rfl) d_Split_split_8 rfl (fun S2 h2 => ?_)
  obtain ⟨h2, hok2, hx2⟩ := h2
  have hu3 := hu2.ex hx2 (fun a h1 h2 => by omega)
  have h1r := h1.ex hx2 (fun a h1 h2 => by omega)
  refine r_aload_n X d_Split_split_11 (by rfl) ?_
  refine r_aload_n X d_Split_split_12 (by rfl) ?_
  refine r_get X lf_Split_49 d_Split_split_13 (by assumption) (by rfl) ?_
  rw [hu3.2.2]
  refine r_aload_n X d_Split_split_16 (by rfl) ?_
  refine r_cVv X lv_Split_55 (c_gather hs0 ht (pfn_ok (iv z) (wgc e N)) hok2 hz (by rw [(hx2 (s + 2) (by omega)).1]; exact hp1) h2.1) (by assumption) (by decide) rfl (Nat.le_of_ble_eq_true rfl) d_Split_split_17 rfl (fun S3 h3 => ?_)
  obtain ⟨h3, hx3⟩ := h3
  refine hR _ _ _ d_Split_split_20 ⟨rfl, h3, h1r.ex hx3 (fun a h1 h2 => by omega), ?_⟩
  exact ((hx1.mono (fun a h => by omega)).trans (hx2.mono (fun a h => by omega))).trans (hx3.mono (fun a h => by omega))
end S3
