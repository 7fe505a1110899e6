section M2
variable {l : Launch} {D : va_G} {cI cT : ClassId} {G : Gm} {S : Sg}
def RepM (S : Sg) (m : Nat) (V : Vt) : Prop := ∀ s, s < 8 → (∀ i, i < 32 → S.1 (m + 1) (32 * s + i) = (V s).1 i) ∧ (∀ b, b < 8 → S.1 (m + 2) (8 * s + b) = (V s).2.1 b) ∧ S.1 (m + 3) s = (V s).2.2
theorem RepM.ex {S S1 : Sg} {m : Nat} {V : Vt} {P : Nat → Prop} (h : RepM S m V) (hx : Ex P S S1) (h1 : ¬ P (m + 1)) (h2 : ¬ P (m + 2)) (h3 : ¬ P (m + 3)) : RepM S1 m V := by
  intro s hs
  rw [(hx _ h1).1, (hx _ h2).1, (hx _ h3).1]
  exact h s hs
abbrev exM (m : Nat) : Sg → Sg → Prop := Ex (fun a => m ≤ a ∧ a < m + 10)
set_option maxHeartbeats 4000000 in
set_option maxRecDepth 100000 in
theorem m_fresh {m z : Nat} (hm : isM G m) : CT (mkE l D cI cT) G y_Model_fresh b_Model_fresh 3 none 1 [.ref m, .int (nI z)] S (Pv (fun S' => S'.1 (m + 4) = rst (S.1 (m + 4)) 0 (fun _ => 0) ∧ S'.1 (m + 5) = (fun _ => 0) ∧ S'.2 m = nI z ∧ Ex (fun a => a = m ∨ a = m + 4 ∨ a = m + 5) S S')) := by
  have hm0 := hm
  obtain ⟨hM, hco, hex, hra, hpo, hbe, hwe, hro, hle, hva⟩ := hm
  refine mk_v (by decide) (eok l D cI cT) (by simp [Value.category]) (Nat.le_of_ble_eq_true rfl) (fun J X hR => ?_)
  show J S 0 [some (.ref m), some (.int (nI z)), none] []
  refine r_aload_n X d_Model_fresh_0 (by rfl) ?_
  refine r_iconst X (x := (nI 0)) d_Model_fresh_1 (by decide) ?_
  refine r_cVv X lv_Model_41 (m_clear (p := 0) hm0 (by omega)) (by assumption) (by decide) rfl (Nat.le_of_ble_eq_true rfl) d_Model_fresh_2 rfl (fun S2 h2 => ?_)
  have ho2 : Out S S2 (m + 4) 1 := by rw [h2]; exact Out.ar (by omega) (by omega)
  have e2 : S2.1 (m + 4) = rst (S.1 (m + 4)) 0 (fun _ => 0) := by rw [h2, arS_1]
  have loop : ∀ k i S1, i + k = 9 → S1 = arS S2 (m + 5) (fun j => if j < i then 0 else S2.1 (m + 5) j) → J S1 7 [some (.ref m), some (.int (nI z)), some (.int (nI i))] [] := by
    intro k
    induction k with
    | zero =>
      intro i S1 hi hS
      refine r_iload_n X d_Model_fresh_7 (by rfl) ?_
      refine r_bipush X (x := (nI 9)) d_Model_fresh_8 (by decide) ?_
      refine r_icmp_geN X d_Model_fresh_10 (tgt := 26) (by decide) (by omega) (by omega) (fun hc => ?_) (fun hc => ?_)
      · refine r_trunc X (f := fun _ => 0) hbe (fun j hj => by rw [hS, arS_1, if_pos (by omega)]) ?_
        rw [hS, arS_arS]
        refine r_aload_n X d_Model_fresh_26 (by rfl) ?_
        refine r_iload_n X d_Model_fresh_27 (by rfl) ?_
        refine r_put X lp_Model_49 d_Model_fresh_28 (by assumption) (by rfl) (Nat.le_of_ble_eq_true rfl) ?_
        refine hR _ _ _ d_Model_fresh_31 ⟨rfl, ?_, ?_, ?_, ?_⟩
        · rw [fdS_1, arS_1n (by omega)]; exact e2
        · rw [fdS_1, arS_1]
        · rw [fdS_2]
        · exact ((ho2.ex (fun a h1 h2 => by omega)).trans ((Out.ar (q := m + 5) (w := 1) (by omega) (by omega)).ex (fun a h1 h2 => by omega))).trans ((Out.fd (q := m) (w := 1) (by omega) (by omega)).ex (fun a h1 h2 => by omega))
      · omega
    | succ k ih =>
      intro i S1 hi hS
      refine r_iload_n X d_Model_fresh_7 (by rfl) ?_
      refine r_bipush X (x := (nI 9)) d_Model_fresh_8 (by decide) ?_
      refine r_icmp_geN X d_Model_fresh_10 (tgt := 26) (by decide) (by omega) (by omega) (fun hc => ?_) (fun hc => ?_)
      · omega
      · refine r_aload_n X d_Model_fresh_13 (by rfl) ?_
        refine r_get X lf_Model_22 d_Model_fresh_14 (by assumption) (by rfl) ?_
        refine r_iload_n X d_Model_fresh_17 (by rfl) ?_
        refine r_iconst X (x := (nI 0)) d_Model_fresh_18 (by decide) ?_
        refine r_iast X d_Model_fresh_19 (by assumption) (by omega) (by omega) ?_
        refine r_iincN X 1 d_Model_fresh_20 (by rfl) (by decide) (by decide) ?_
        refine r_goto X d_Model_fresh_23 (tgt := 7) (by decide) ?_
        refine ih (i + 1) _ (by omega) ?_
        rw [hS, arS_arS, arS_1, up_lt (fun _ => 0)]
  refine r_iconst X (x := (nI 0)) d_Model_fresh_5 (by decide) ?_
  refine r_istore_n X d_Model_fresh_6 (by decide) ?_
  refine loop 9 0 _ (by omega) ?_
  rw [if_lt0 (fun _ => 0), arS_id]
def lmt (b : Nat) : Nat := if b = 8 then 0 else 3
theorem nrl_zero (n : Nat) : ∀ m b, nrl n m b (fun _ => 0) (fun _ => 0) = (fun _ => 0, fun _ => 0) := by
  intro m
  induction m with
  | zero => intro b; rfl
  | succ m ih =>
    intro b
    show nrl n m (b + 1) (fun _ => 0) (va_up (fun _ => 0) b 0) = _
    rw [show va_up (fun _ => 0) b 0 = (fun _ => (0 : Nat)) by funext j; unfold va_up; split <;> rfl]
    exact ih (b + 1)
set_option maxHeartbeats 8000000 in
set_option maxRecDepth 100000 in
theorem m_settled {m z : Nat} {f e : Nat → Nat} (hm : isM G m) (hg : okG (S.1 (m + 4))) (hf : rowf (S.1 (m + 4)) 0 = f) (hE : okE e) (he : S.1 (m + 5) = e) (hz : S.2 m = nI z) : CT (mkE l D cI cT) G y_Model_settled b_Model_settled 3 (some .boolean) 2 [.ref m] S (Pi (fun S' r => S'.1 (m + 4) = rst (S.1 (m + 4)) 0 (nrN 80 f e) ∧ S'.1 (m + 5) = nrE 80 f e ∧ S'.2 m = nI (nrZ 80 f z) ∧ Ex (fun a => a = m ∨ a = m + 4 ∨ a = m + 5) S S' ∧ ((r = nI 1 ∧ ovr 80 (nrN 80 f e) (nrE 80 f e)) ∨ (r = nI 0 ∧ ¬ ovr 80 (nrN 80 f e) (nrE 80 f e))))) := by
  have hm0 := hm
  obtain ⟨hM, hco, hex, hra, hpo, hbe, hwe, hro, hle, hva⟩ := hm
  have hfok : okP 80 f := by rw [← hf]; exact hg.row 0
  have htp := tp_le f 80
  refine mk_i (by decide) (eok l D cI cT) (by simp [Value.category]) (Nat.le_of_ble_eq_true rfl) (fun J X hR => ?_)
  show J S 0 [some (.ref m), none, none] []
  have main : ∀ Rz RN RE, ((nrN 80 f e, nrE 80 f e, nrZ 80 f z) = (RN, RE, Rz)) → ∀ k b M F S1 v, b + k = 9 → okP 80 M → okE F → S1.1 (m + 4) = rst (S.1 (m + 4)) 0 M → S1.1 (m + 5) = F → S1.2 m = nI Rz → Ex (fun a => a = m ∨ a = m + 4 ∨ a = m + 5) S S1 → nrl 80 k b M F = (RN, RE) → ((v = nI 1 ∧ ∃ b', b' < b ∧ lmt b' < F b') ∨ (v = nI 0 ∧ ¬ ∃ b', b' < b ∧ lmt b' < F b')) → J S1 17 [some (.ref m), some (.int v), some (.int (nI b))] [] := by
    intro Rz RN RE hR3 k
    injection hR3 with hRN hR3
    injection hR3 with hRE hRz
    induction k with
    | zero =>
      intro b M F S1 v hb hM1 hF h4 h5 hz1 hx hnl hv
      have hb9 : b = 9 := by omega
      subst hb9
      have hMN : M = RN := congrArg Prod.fst hnl
      have hFE : F = RE := congrArg Prod.snd hnl
      have hg1 : okG (S1.1 (m + 4)) := by rw [h4]; exact hg.rst 0 hM1
      have hrow1 : rowf (S1.1 (m + 4)) 0 = M := by rw [h4]; exact rowf_rst hM1
      have htM := tp_le M 80
      have out1 : (ovr 80 M F) → J S1 111 [some (.ref m), some (.int v), some (.int (nI 9))] [] := by
        intro hov
        refine r_iconst X (x := (nI 1)) d_Model_settled_111 (by decide) ?_
        refine r_goto X d_Model_settled_112 (tgt := 116) (by decide) ?_
        refine hR _ _ _ _ d_Model_settled_116 (by decide) ⟨_, rfl, ?_, ?_, ?_, hx, Or.inl ⟨rfl, ?_⟩⟩
        · rw [h4, hMN, hRN]
        · rw [h5, hFE, hRE]
        · rw [hz1, hRz]
        · rw [hRN, hRE, ← hMN, ← hFE]; exact hov
      refine r_iload_n X d_Model_settled_17 (by rfl) ?_
      refine r_bipush X (x := (nI 9)) d_Model_settled_18 (by decide) ?_
      refine r_icmp_geN X d_Model_settled_20 (tgt := 97) (by decide) (by omega) (by omega) (fun hc => ?_) (fun hc => ?_)
      · refine r_iload_n X d_Model_settled_97 (by rfl) ?_
        rcases hv with ⟨rfl, b', hb', hlt⟩ | ⟨rfl, hno⟩
        · refine r_if_neN X d_Model_settled_98 (tgt := 111) (by decide) (by omega) (fun hc => ?_) (fun hc => ?_)
          · refine out1 ?_
            by_cases h8 : b' = 8
            · subst h8
              exact Or.inr (Or.inr hlt)
            · unfold lmt at hlt
              rw [if_neg h8] at hlt
              exact Or.inl ⟨b', by omega, hlt⟩
          · omega
        · refine r_if_neN X d_Model_settled_98 (tgt := 111) (by decide) (by omega) (fun hc => ?_) (fun hc => ?_)
          · omega
          · refine r_aload_n X d_Model_settled_101 (by rfl) ?_
            refine r_iconst X (x := (nI 0)) d_Model_settled_102 (by decide) ?_
            refine r_cVi X lv_Model_53 (m_top (p := 0) hm0 (by omega) hg1) (by assumption) (by decide) rfl (Nat.le_of_ble_eq_true rfl) d_Model_settled_103 rfl (fun S2 r h2 => ?_)
            obtain ⟨hxs, rfl⟩ := h2
            replace hxs := hxs.symm
            subst hxs
            rw [hrow1]
            refine r_bipush X (x := nI 31) d_Model_settled_106 (by decide) ?_
            refine r_icmp_le X d_Model_settled_108 (tgt := 115) (by decide) (fun hc2 => ?_) (fun hc2 => ?_)
            · rw [Int32.le_iff_toInt_le, tI_toInt (by omega), nI_toInt (by omega)] at hc2
              refine r_iconst X (x := (nI 0)) d_Model_settled_115 (by decide) ?_
              refine hR _ _ _ _ d_Model_settled_116 (by decide) ⟨_, rfl, ?_, ?_, ?_, hx, Or.inr ⟨rfl, ?_⟩⟩
              · rw [h4, hMN, hRN]
              · rw [h5, hFE, hRE]
              · rw [hz1, hRz]
              · rw [hRN, hRE, ← hMN, ← hFE]
                rintro (⟨b', h1, h2⟩ | h | h)
                · refine hno ⟨b', by omega, ?_⟩
                  unfold lmt
                  rw [if_neg (by omega)]
                  exact h2
                · omega
                · exact hno ⟨8, by omega, h⟩
            · rw [Int32.le_iff_toInt_le, tI_toInt (by omega), nI_toInt (by omega)] at hc2
              exact out1 (Or.inr (Or.inl (by omega)))
      · omega
    | succ k ih =>
      intro b M F S1 v hb hM1 hF h4 h5 hz1 hx hnl hv
      have hr7 : rt b < 10007 := Nat.mod_lt _ (by decide)
      have inner : ∀ j K S2, okP 80 K → j < 100 → S2.1 (m + 4) = rst (S.1 (m + 4)) 0 K → S2.1 (m + 5) = va_up F b j → S2.2 m = nI Rz → Ex (fun a => a = m ∨ a = m + 4 ∨ a = m + 5) S S2 → strip 80 (rt b) j K = strip 80 (rt b) (F b) M → J S2 23 [some (.ref m), some (.int v), some (.int (nI b))] [] := by
        intro j
        have out : ∀ K S2 j, okP 80 K → j < 100 → S2.1 (m + 4) = rst (S.1 (m + 4)) 0 K → S2.1 (m + 5) = va_up F b j → S2.2 m = nI Rz → Ex (fun a => a = m ∨ a = m + 4 ∨ a = m + 5) S S2 → (K, j) = strip 80 (rt b) (F b) M → J S2 61 [some (.ref m), some (.int v), some (.int (nI b))] [] := by
          intro K S2 j hK hj k4 k5 kz kx hst
          have go : ∀ w, ((w = nI 1 ∧ ∃ b', b' < b + 1 ∧ lmt b' < va_up F b j b') ∨ (w = nI 0 ∧ ¬ ∃ b', b' < b + 1 ∧ lmt b' < va_up F b j b')) → J S2 90 [some (.ref m), some (.int v), some (.int (nI b))] [.int w] := by
            intro w hw
            refine r_istore_n X d_Model_settled_90 (by decide) ?_
            refine r_iincN X 1 d_Model_settled_91 (by rfl) (by decide) (by decide) ?_
            refine r_goto X d_Model_settled_94 (tgt := 17) (by decide) ?_
            refine ih (b + 1) K (va_up F b j) S2 w (by omega) hK (hF.up (by omega) hj) k4 k5 kz kx ?_ hw
            rw [← hnl]
            show _ = nrl 80 k (b + 1) (strip 80 (rt b) (F b) M).1 (va_up F b (strip 80 (rt b) (F b) M).2)
            rw [← hst]
          have yes : (∃ b', b' < b + 1 ∧ lmt b' < va_up F b j b') → J S2 85 [some (.ref m), some (.int v), some (.int (nI b))] [] := by
            intro h
            refine r_iconst X (x := (nI 1)) d_Model_settled_85 (by decide) ?_
            refine r_goto X d_Model_settled_86 (tgt := 90) (by decide) ?_
            exact go (nI 1) (Or.inl ⟨rfl, h⟩)
          refine r_iload_n X d_Model_settled_61 (by rfl) ?_
          rcases hv with ⟨rfl, b', hb', hlt⟩ | ⟨rfl, hno⟩
          · refine r_if_neN X d_Model_settled_62 (tgt := 85) (by decide) (by omega) (fun hc => ?_) (fun hc => ?_)
            · exact yes ⟨b', by omega, by rw [va_up_n (by omega)]; exact hlt⟩
            · omega
          · refine r_if_neN X d_Model_settled_62 (tgt := 85) (by decide) (by omega) (fun hc => ?_) (fun hc => ?_)
            · omega
            · refine r_aload_n X d_Model_settled_65 (by rfl) ?_
              refine r_get X lf_Model_22 d_Model_settled_66 (by assumption) (by rfl) ?_
              refine r_iload_n X d_Model_settled_69 (by rfl) ?_
              refine r_iald X d_Model_settled_70 (by assumption) (by omega) (by omega) ?_
              rw [k5, va_up_s]
              have cmp : ∀ w, w = lmt b → J S2 82 [some (.ref m), some (.int (nI 0)), some (.int (nI b))] [.int (nI w), .int (nI j)] := by
                intro w hw
                have hw4 : w ≤ 3 := by rw [hw]; unfold lmt; split <;> omega
                refine r_icmp_leN X d_Model_settled_82 (tgt := 89) (by decide) (by omega) (by omega) (fun hc => ?_) (fun hc => ?_)
                · refine r_iconst X (x := (nI 0)) d_Model_settled_89 (by decide) ?_
                  refine go (nI 0) (Or.inr ⟨rfl, fun ⟨b', h1, h2⟩ => ?_⟩)
                  by_cases h3 : b' = b
                  · rw [h3, va_up_s, ← hw] at h2
                    omega
                  · rw [va_up_n h3] at h2
                    exact hno ⟨b', by omega, h2⟩
                · exact yes ⟨b, by omega, by rw [va_up_s, ← hw]; exact hc⟩
              refine r_iload_n X d_Model_settled_71 (by rfl) ?_
              refine r_bipush X (x := (nI 8)) d_Model_settled_72 (by decide) ?_
              refine r_icmp_neN X d_Model_settled_74 (tgt := 81) (by decide) (by omega) (by omega) (fun hc => ?_) (fun hc => ?_)
              · refine r_iconst X (x := (nI 3)) d_Model_settled_81 (by decide) ?_
                exact cmp 3 (by unfold lmt; rw [if_neg hc])
              · refine r_iconst X (x := (nI 0)) d_Model_settled_77 (by decide) ?_
                refine r_goto X d_Model_settled_78 (tgt := 82) (by decide) ?_
                exact cmp 0 (by unfold lmt; rw [if_pos hc])
        induction j with
        | zero =>
          intro K S2 hK hj k4 k5 kz kx hst
          refine r_aload_n X d_Model_settled_23 (by rfl) ?_
          refine r_get X lf_Model_22 d_Model_settled_24 (by assumption) (by rfl) ?_
          refine r_iload_n X d_Model_settled_27 (by rfl) ?_
          refine r_iald X d_Model_settled_28 (by assumption) (by omega) (by omega) ?_
          rw [k5, va_up_s]
          refine r_if_leN X d_Model_settled_29 (tgt := 61) (by decide) (by omega) (fun hc => ?_) (fun hc => ?_)
          · exact out K S2 0 hK hj k4 k5 kz kx hst
          · omega
        | succ j ihj =>
          intro K S2 hK hj k4 k5 kz kx hst
          have hst : (if hn K (rt b) 80 0 = 0 then strip 80 (rt b) j (dq 80 (rt b) K) else (K, j + 1)) = strip 80 (rt b) (F b) M := hst
          have hgk : okG (S2.1 (m + 4)) := by rw [k4]; exact hg.rst 0 hK
          have hrk : rowf (S2.1 (m + 4)) 0 = K := by rw [k4]; exact rowf_rst hK
          have hh := hn_lt K (rt b) 80 0
          have hh2 := hn_lt K ((10007 - b) % 10007) 80 0
          refine r_aload_n X d_Model_settled_23 (by rfl) ?_
          refine r_get X lf_Model_22 d_Model_settled_24 (by assumption) (by rfl) ?_
          refine r_iload_n X d_Model_settled_27 (by rfl) ?_
          refine r_iald X d_Model_settled_28 (by assumption) (by omega) (by omega) ?_
          rw [k5, va_up_s]
          refine r_if_leN X d_Model_settled_29 (tgt := 61) (by decide) (by omega) (fun hc => ?_) (fun hc => ?_)
          · omega
          · refine r_aload_n X d_Model_settled_32 (by rfl) ?_
            refine r_iconst X (x := (nI 0)) d_Model_settled_33 (by decide) ?_
            refine r_iload_n X d_Model_settled_34 (by rfl) ?_
            refine r_ineg X d_Model_settled_35 ?_
            refine r_cVi X lv_Model_59 (m_at (p := 0) hm0 (by omega) hgk) (by assumption) (by decide) rfl (Nat.le_of_ble_eq_true rfl) d_Model_settled_36 rfl (fun S3 r h3 => ?_)
            obtain ⟨hxs, rfl⟩ := h3
            replace hxs := hxs.symm
            subst hxs
            rw [hrk, em_neg (by omega)]
            refine r_if_neN X d_Model_settled_39 (tgt := 61) (by decide) (by omega) (fun hc => ?_) (fun hc => ?_)
            · have hc2 : ¬ hn K (rt b) 80 0 = 0 := hc
              rw [if_neg hc2] at hst
              exact out K S2 (j + 1) hK hj k4 k5 kz kx hst
            · have hc2 : hn K (rt b) 80 0 = 0 := hc
              rw [if_pos hc2] at hst
              refine r_aload_n X d_Model_settled_42 (by rfl) ?_
              refine r_iconst X (x := (nI 0)) d_Model_settled_43 (by decide) ?_
              refine r_iload_n X d_Model_settled_44 (by rfl) ?_
              refine r_cVv X lv_Model_62 (m_divide (p := 0) (b := b) hm0 (by omega) hgk (by omega)) (by assumption) (by decide) rfl (Nat.le_of_ble_eq_true rfl) d_Model_settled_45 rfl (fun S4 h4 => ?_)
              have ho4 : Out S2 S4 (m + 4) 1 := by rw [h4]; exact Out.ar (by omega) (by omega)
              have e4 : S4.1 (m + 5) b = j + 1 := by rw [ho4.a1 (by omega), k5, va_up_s]
              have e5 : S4.1 (m + 4) = rst (S.1 (m + 4)) 0 (dq 80 (rt b) K) := by rw [h4, arS_1, hrk, k4, rst_rst]
              refine r_aload_n X d_Model_settled_48 (by rfl) ?_
              refine r_get X lf_Model_22 d_Model_settled_49 (by assumption) (by rfl) ?_
              refine r_iload_n X d_Model_settled_52 (by rfl) ?_
              refine r_dup2 X d_Model_settled_53 (by rfl) (by rfl) ?_
              refine r_iald X d_Model_settled_54 (by assumption) (by omega) (by omega) ?_
              rw [e4]
              refine r_iconst X (x := (nI 1)) d_Model_settled_55 (by decide) ?_
              first | refine r_isubN X d_Model_settled_56 (by omega) ?_ | refine r_isub X d_Model_settled_56 ?_
              refine r_iast X d_Model_settled_57 (by assumption) (by omega) (by omega) ?_
              refine r_goto X d_Model_settled_58 (tgt := 23) (by decide) ?_
              refine ihj (dq 80 (rt b) K) _ (dq_ok 80 (rt b) K) (by omega) ?_ ?_ ?_ ?_ hst
              · rw [arS_1n (by omega)]; exact e5
              · rw [arS_1, ho4.a1 (by omega), k5, va_up_up]
                rfl
              · rw [arS_2, ho4.a2 (by omega)]; exact kz
              · exact (kx.trans (ho4.ex (fun a h1 h2 => by omega))).trans ((Out.ar (q := m + 5) (w := 1) (by omega) (by omega)).ex (fun a h1 h2 => by omega))
      refine r_iload_n X d_Model_settled_17 (by rfl) ?_
      refine r_bipush X (x := (nI 9)) d_Model_settled_18 (by decide) ?_
      refine r_icmp_geN X d_Model_settled_20 (tgt := 97) (by decide) (by omega) (by omega) (fun hc => ?_) (fun hc => ?_)
      · omega
      · refine inner (F b) M S1 hM1 (hF.1 b) h4 ?_ hz1 hx rfl
        rw [va_up_id]
        exact h5
  refine r_aload_n X d_Model_settled_0 (by rfl) ?_
  refine r_iconst X (x := (nI 0)) d_Model_settled_1 (by decide) ?_
  refine r_cVi X lv_Model_53 (m_top (p := 0) hm0 (by omega) hg) (by assumption) (by decide) rfl (Nat.le_of_ble_eq_true rfl) d_Model_settled_2 rfl (fun S2 r h2 => ?_)
  obtain ⟨hxs, rfl⟩ := h2
  replace hxs := hxs.symm
  subst hxs
  rw [hf]
  refine r_if_geT X d_Model_settled_5 (tgt := 13) (by decide) (by omega) (fun hc => ?_) (fun hc => ?_)
  · refine r_iconst X (x := (nI 0)) d_Model_settled_13 (by decide) ?_
    refine r_istore_n X d_Model_settled_14 (by decide) ?_
    refine r_iconst X (x := (nI 0)) d_Model_settled_15 (by decide) ?_
    refine r_istore_n X d_Model_settled_16 (by decide) ?_
    refine main _ _ _ rfl 9 0 f e S (nI 0) (by omega) hfok hE ?_ he ?_ (Ex.rf _ _) ?_ (Or.inr ⟨rfl, fun ⟨b', h1, _⟩ => by omega⟩)
    · rw [← hf]
      funext j
      unfold rst prt
      split
      · next h =>
        unfold rowf
        rw [if_pos (by omega), show 0 + (j - 0) = j by omega]
      · rfl
    · rw [hz]
      unfold nrZ
      rw [if_neg (by omega)]
    · unfold nrN nrE
      rw [if_neg (by omega), if_neg (by omega)]
  · refine r_aload_n X d_Model_settled_8 (by rfl) ?_
    refine r_iconst X (x := (nI 1)) d_Model_settled_9 (by decide) ?_
    refine r_cVv X lv_Model_56 (m_fresh (z := 1) hm0) (by assumption) (by decide) rfl (Nat.le_of_ble_eq_true rfl) d_Model_settled_10 rfl (fun S3 h3 => ?_)
    obtain ⟨k4, k5, kz, kx⟩ := h3
    refine r_iconst X (x := (nI 0)) d_Model_settled_13 (by decide) ?_
    refine r_istore_n X d_Model_settled_14 (by decide) ?_
    refine r_iconst X (x := (nI 0)) d_Model_settled_15 (by decide) ?_
    refine r_istore_n X d_Model_settled_16 (by decide) ?_
    refine main _ _ _ rfl 9 0 (fun _ => 0) (fun _ => 0) S3 (nI 0) (by omega) (zero_ok 80) zeroE_ok k4 k5 ?_ kx ?_ (Or.inr ⟨rfl, fun ⟨b', h1, _⟩ => by omega⟩)
    · rw [kz]
      unfold nrZ
      rw [if_pos hc]
    · unfold nrN nrE
      rw [if_pos hc, if_pos hc]
      exact nrl_zero 80 9 0
end M2
