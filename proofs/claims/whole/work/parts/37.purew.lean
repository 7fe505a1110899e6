theorem fi_cmp {a : Nat} (h : a ≤ 10007) : fi (10007 - a) = -fi a := by
  have h2 : fi (10007 - a) + fi a = 0 := by rw [← fi_add, show 10007 - a + a = 10007 by omega, fi_p]
  grobner
theorem fi_rt {b : Nat} (h : b ≤ 10007) : fi (rt b) = -fi b := by
  unfold rt
  rw [fi_mod]
  exact fi_cmp h
theorem fi_dst {o b : Nat} (h : b ≤ 10007) : fi b + fi (dst o b) = fi o := by
  unfold dst
  rw [fi_mod, fi_add, fi_cmp h]
  grobner
theorem ser0_eq {b : Nat} {f : Nat → Nat} (hb : b < 8) (h : okP 64 f) (x : Fp) : pv f 64 x = ev (fun i => fi (ser0 (rt b) f i)) 3 (x + fi b) + px (x + fi b) 3 * pv (rdq (rt b) 3 f) 64 x := by
  have h0 := pv_dq 64 (rt b) f h.2 x
  have h1 := pv_dq 64 (rt b) (rdq (rt b) 1 f) (rdq_ok h 1).2 x
  have h2 := pv_dq 64 (rt b) (rdq (rt b) 2 f) (rdq_ok h 2).2 x
  have s0 : fi (ser0 (rt b) f 0) = pv f 64 (fi (rt b)) := hn_pv f (rt b) 64
  have s1 : fi (ser0 (rt b) f 1) = pv (rdq (rt b) 1 f) 64 (fi (rt b)) := hn_pv (rdq (rt b) 1 f) (rt b) 64
  have s2 : fi (ser0 (rt b) f 2) = pv (rdq (rt b) 2 f) 64 (fi (rt b)) := hn_pv (rdq (rt b) 2 f) (rt b) 64
  rw [← s0] at h0
  rw [← s1] at h1
  rw [← s2] at h2
  have e1 : rdq (rt b) 1 f = dq 64 (rt b) f := rfl
  have e2 : rdq (rt b) 2 f = dq 64 (rt b) (rdq (rt b) 1 f) := rfl
  have e3 : rdq (rt b) 3 f = dq 64 (rt b) (rdq (rt b) 2 f) := rfl
  rw [← e1] at h0
  rw [← e2] at h1
  rw [← e3] at h2
  rw [fi_rt (by omega)] at h0 h1 h2
  show _ = fi (ser0 (rt b) f 0) + (x + fi b) * (fi (ser0 (rt b) f 1) + (x + fi b) * (fi (ser0 (rt b) f 2) + (x + fi b) * 0)) + 1 * (x + fi b) * (x + fi b) * (x + fi b) * pv (rdq (rt b) 3 f) 64 x
  rw [h0, h1, h2]
  grobner
def CL (Nf : Fp → Fp) (b : Nat) (s : Nat → Nat) (Df : Fp → Fp) : Prop := ∃ h, PF 100 h ∧ ∀ x, Nf x = ev (fun i => fi (s i)) 3 (x + fi b) * Df x + px (x + fi b) 3 * h x
theorem CL.congr {Nf : Fp → Fp} {b : Nat} {s : Nat → Nat} {D1 D2 : Fp → Fp} (h : CL Nf b s D1) (e : ∀ x, D1 x = D2 x) : CL Nf b s D2 := by
  obtain ⟨g, hg, hx⟩ := h
  exact ⟨g, hg, fun x => by rw [← e x]; exact hx x⟩
theorem cl_dse {Nf : Fp → Fp} {b o d : Nat} {s : Nat → Nat} {Df : Fp → Fp} (hD : PF 100 Df) (hd : fi d ≠ 0) (hδ : fi b + fi d = fi o) (h : CL Nf b s Df) : CL Nf b (dse d s) (fun x => Df x * (x + fi o)) := by
  obtain ⟨g, hg, hx⟩ := h
  have hv := mul_inv hd
  have l0 := dsr_lt d s 0
  have l1 := dsr_lt d s 1
  have a0 : fi (dse d s 0) = fi (s 0) * inv (fi d) := by
    show fi (s 0 * iv d % 10007) = _
    rw [fi_mod, fi_mul, iv_fi]
  have a1 : fi (dse d s 1) = (fi (s 1) - fi (dse d s 0)) * inv (fi d) := by
    show fi ((s 1 + (10007 - dsr d s 0)) % 10007 * iv d % 10007) = (fi (s 1) - fi (dsr d s 0)) * inv (fi d)
    rw [fi_mod, fi_mul, iv_fi, fi_mod, fi_add, fi_cmp (by omega)]
    grobner
  have a2 : fi (dse d s 2) = (fi (s 2) - fi (dse d s 1)) * inv (fi d) := by
    show fi ((s 2 + (10007 - dsr d s 1)) % 10007 * iv d % 10007) = (fi (s 2) - fi (dsr d s 1)) * inv (fi d)
    rw [fi_mod, fi_mul, iv_fi, fi_mod, fi_add, fi_cmp (by omega)]
    grobner
  exact ser_step (s := fun i => fi (s i)) (s' := fun i => fi (dse d s i)) hδ hD hg (by show fi d * fi (dse d s 0) = fi (s 0); rw [a0]; grobner) (by show fi d * fi (dse d s 1) = fi (s 1) - fi (dse d s 0); rw [a1]; grobner) (by show fi d * fi (dse d s 2) = fi (s 2) - fi (dse d s 1); rw [a2]; grobner) hx
theorem cl_dseN {Nf : Fp → Fp} {b o d : Nat} (hd : fi d ≠ 0) (hδ : fi b + fi d = fi o) : ∀ (t n : Nat) {s : Nat → Nat} {Df : Fp → Fp}, PF n Df → n + t ≤ 100 → CL Nf b s Df → CL Nf b (dseN d t s) (fun x => Df x * px (x + fi o) t) := by
  intro t
  induction t with
  | zero => intro n s Df hD hn h; exact h.congr (fun x => by rw [px_0]; grobner)
  | succ t ih =>
    intro n s Df hD hn h
    have h1 := cl_dse (o := o) (hD.mono (by omega)) hd hδ h
    have hD1 : PF (n + 1) (fun x => Df x * (x + fi o)) := (PF.lin (fi o) hD).congr (fun x => by grobner)
    exact (ih (n + 1) hD1 (by omega) h1).congr (fun x => by rw [px_s]; grobner)
theorem sE_le {f : Nat → Nat} (hf : ∀ i, f i ≤ 3) : ∀ m, sE f m ≤ 3 * m := by
  intro m
  induction m with
  | zero => exact Nat.le_refl _
  | succ m ih => have := hf m; show sE f m + f m ≤ _; omega
theorem up0_le {e : Nat → Nat} {b : Nat} (he : ∀ i, e i ≤ 3) : ∀ i, va_up e b 0 i ≤ 3 := by
  intro i
  unfold va_up
  split
  · omega
  · exact he i
theorem cl_xsr {Nf : Fp → Fp} {b : Nat} {e s : Nat → Nat} (hb : b < 8) (he : ∀ i, e i ≤ 3) (h : CL Nf b s (fun _ => 1)) : ∀ k, k ≤ 8 → CL Nf b (xsr e b k s) (pp (va_up e b 0) k) := by
  intro k
  induction k with
  | zero => intro _; exact h
  | succ k ih =>
    intro hk
    have h1 := ih (by omega)
    unfold xsr
    by_cases hkb : k = b
    · rw [if_pos hkb]
      refine h1.congr (fun x => ?_)
      show _ = pp (va_up e b 0) k x * px (x + fi k) (va_up e b 0 k)
      rw [hkb, va_up_s, px_0]
      grobner
    · rw [if_neg hkb]
      have hs := sE_le (up0_le (b := b) he) k
      have hd : fi (dst k b) ≠ 0 := by
        intro h0
        have := fi_dst (o := k) (b := b) (by omega)
        rw [h0] at this
        have h2 : fi b = fi k := by rw [← this]; grobner
        exact hkb (fi_inj (by omega) (by omega) h2).symm
      have hek := he k
      refine (cl_dseN hd (fi_dst (o := k) (b := b) (by omega)) (e k) (sE (va_up e b 0) k + 1) (PF.ppf _ k) (by omega) h1).congr (fun x => ?_)
      show _ = pp (va_up e b 0) k x * px (x + fi k) (va_up e b 0 k)
      rw [va_up_n hkb]
theorem xpn_cl {b : Nat} {e N : Nat → Nat} (hb : b < 8) (he : ∀ i, e i ≤ 3) (hN : okP 32 N) : CL (fun x => pv N 80 x) b (xpn e b N) (pp (va_up e b 0) 8) := by
  unfold xpn
  rw [cut_id (fun i hi => hN.2 i (by omega))]
  refine cl_xsr hb he ?_ 8 (by omega)
  refine ⟨fun x => pv (rdq (rt b) 3 N) 64 x, ((PF.evf (fun j => fi (rdq (rt b) 3 N j)) 64).mono (by omega)).congr (fun _ => rfl), fun x => ?_⟩
  show pv N 80 x = _
  rw [pv_le (m := 80) (n := 64) (by omega) (fun i hi => hN.2 i (by omega)), ser0_eq hb (hN.mono (by omega)) x]
  grobner
theorem mtN_pv {b : Nat} (x : Fp) : ∀ (t : Nat) {n : Nat} {f : Nat → Nat}, okP n f → n + t ≤ 64 → pv (mtN 80 b t f) 80 x = px (x + fi b) t * pv f 80 x ∧ okP (n + t) (mtN 80 b t f) := by
  intro t
  induction t with
  | zero => intro n f h _; exact ⟨by rw [px_0]; show pv f 80 x = 1 * pv f 80 x; grobner, h⟩
  | succ t ih =>
    intro n f h hn
    have h1 := mt_w (b := b) h (by omega)
    have h2 := ih (f := mt 80 b f) (by rw [h1.1]; exact h1.2) (by omega)
    refine ⟨?_, ?_⟩
    · show pv (mtN 80 b t (mt 80 b f)) 80 x = _
      rw [h2.1, pv_mt (m := n) (by omega) h.2, px_s]
      grobner
    · show okP (n + (t + 1)) (mtN 80 b t (mt 80 b f))
      rw [show n + (t + 1) = n + 1 + t by omega]
      exact h2.2
theorem wd_pv {d f : Nat → Nat} {n : Nat} (hd : ∀ i, d i ≤ 3) (h : okP n f) (x : Fp) : ∀ k, n + 3 * k ≤ 64 → pv (wd 80 d k f) 80 x = pp d k x * pv f 80 x ∧ okP (n + 3 * k) (wd 80 d k f) := by
  intro k
  induction k with
  | zero => intro _; exact ⟨by show pv f 80 x = 1 * pv f 80 x; grobner, h⟩
  | succ k ih =>
    intro hk
    have h1 := ih (by omega)
    have hdk := hd k
    have h2 := mtN_pv (b := k) x (d k) h1.2 (by omega)
    refine ⟨?_, h2.2.mono (by omega)⟩
    show pv (mtN 80 k (d k) (wd 80 d k f)) 80 x = pp d k x * px (x + fi k) (d k) * pv f 80 x
    rw [h2.1, h1.1]
    grobner
theorem lfb_le {e : Nat → Nat} (b : Nat) (he : ∀ i, e i ≤ 3) : ∀ i, lfb e b i ≤ 3 := by
  intro i
  unfold lfb
  split
  · omega
  · exact he i
theorem one_ok : okP 1 (lin 0 1) := by
  refine ⟨(lin_ok (n := 2) (by decide) (by decide) (by decide)).1, fun i hi => ?_⟩
  unfold lin
  rw [if_neg (by omega)]
  split <;> rfl
theorem pv_one (x : Fp) : pv (lin 0 1) 80 x = 1 := by
  rw [pv_le (m := 80) (n := 1) (by omega) one_ok.2]
  show fi 1 + x * 0 = 1
  rw [fi_1]
  grobner
theorem opr_pv {e : Nat → Nat} (b : Nat) (he : ∀ i, e i ≤ 3) (x : Fp) : pv (opr e b) 80 x = pp (lfb e b) 8 x := by
  unfold opr
  rw [(wd_pv (lfb_le b he) one_ok x 8 (by omega)).1, pv_one]
  grobner
theorem wch_out {e : Nat → Nat} {b : Nat} : ∀ (j : Nat) {W u : Nat → Nat} {i : Nat}, (i < 3 * b ∨ 3 * b + j ≤ i) → (wch e b j W u).2 i = u i := by
  intro j
  induction j with
  | zero => intro W u i _; rfl
  | succ j ih =>
    intro W u i hi
    show (wch e b j _ (va_up u (3 * b + j) _)).2 i = u i
    rw [ih (by omega), va_up_n (by omega)]
theorem cancel0 {A B I : Fp} (h : B * I = 1) : A + -(A * I) * B = 0 := by grobner
theorem wch_st {e : Nat → Nat} {b : Nat} (hb : b < 8) (he : ∀ i, e i ≤ 3) (x : Fp) : ∀ (j : Nat) {W u : Nat → Nat}, okP 80 W → pv W 80 x = ev (fun i => fi ((wch e b j W u).2 (3 * b + (j - 1 - i)))) j (x + fi b) * pp (lfb e b) 8 x + px (x + fi b) j * pv (wch e b j W u).1 80 x := by
  intro j
  induction j with
  | zero =>
    intro W u h
    show pv W 80 x = 0 * _ + 1 * pv W 80 x
    grobner
  | succ j ih =>
    intro W u h
    have hw7 : wgw e b W < 10007 := Nat.mod_lt _ (by decide)
    have hne : pp (lfb e b) 8 (-fi b) ≠ 0 := by
      refine pp_ne (fun o ho h0 => ?_)
      intro hz
      have : fi o = fi b := by grobner
      have hob := fi_inj (by omega) (by omega) this
      exact h0 (by rw [hob]; unfold lfb; rw [if_pos (Nat.le_refl b)])
    have ew : fi (wgw e b W) = pv W 80 (-fi b) * inv (pp (lfb e b) 8 (-fi b)) := by
      unfold wgw
      rw [fi_mod, fi_mul, iv_fi, hn_pv, hn_pv, fi_rt (by omega), opr_pv b he]
    have hv := mul_inv hne
    have hW1 := pv_ads 80 (10007 - wgw e b W) W (opr e b)
    have hdq := pv_dq 80 (rt b) (ads 80 (10007 - wgw e b W) W (opr e b)) (ads_ok 80 _ _ _).2 x
    rw [hW1, hW1, fi_rt (by omega), opr_pv b he, opr_pv b he, fi_cmp (by omega)] at hdq
    have hi := ih (W := dq 80 (rt b) (ads 80 (10007 - wgw e b W) W (opr e b))) (u := va_up u (3 * b + j) (wgw e b W)) (dq_ok 80 _ _)
    have hu : (wch e b (j + 1) W u).2 (3 * b + (j + 1 - 1 - 0)) = wgw e b W := by
      show (wch e b j _ (va_up u (3 * b + j) (wgw e b W))).2 (3 * b + j) = _
      rw [wch_out j (by omega), va_up_s]
    show _ = (fi ((wch e b (j + 1) W u).2 (3 * b + (j + 1 - 1 - 0))) + (x + fi b) * ev (fun i => fi ((wch e b (j + 1) W u).2 (3 * b + (j + 1 - 1 - (i + 1))))) j (x + fi b)) * pp (lfb e b) 8 x + px (x + fi b) (j + 1) * pv (wch e b (j + 1) W u).1 80 x
    rw [hu, px_s]
    have h2 : ev (fun i => fi ((wch e b (j + 1) W u).2 (3 * b + (j + 1 - 1 - (i + 1))))) j (x + fi b) = ev (fun i => fi ((wch e b j (dq 80 (rt b) (ads 80 (10007 - wgw e b W) W (opr e b))) (va_up u (3 * b + j) (wgw e b W))).2 (3 * b + (j - 1 - i)))) j (x + fi b) := ev_ext (fun i _ => by rw [show j + 1 - 1 - (i + 1) = j - 1 - i by omega]; rfl) _
    have h3 : (wch e b (j + 1) W u).1 = (wch e b j (dq 80 (rt b) (ads 80 (10007 - wgw e b W) W (opr e b))) (va_up u (3 * b + j) (wgw e b W))).1 := rfl
    rw [h2, h3]
    generalize ev (fun i => fi ((wch e b j (dq 80 (rt b) (ads 80 (10007 - wgw e b W) W (opr e b))) (va_up u (3 * b + j) (wgw e b W))).2 (3 * b + (j - 1 - i)))) j (x + fi b) = E1 at hi ⊢
    generalize pv (wch e b j (dq 80 (rt b) (ads 80 (10007 - wgw e b W) W (opr e b))) (va_up u (3 * b + j) (wgw e b W))).1 80 x = E2 at hi ⊢
    rw [hi] at hdq
    have hz : pv W 80 (-fi b) + -fi (wgw e b W) * pp (lfb e b) 8 (-fi b) = 0 := by
      rw [ew]
      exact cancel0 hv
    rw [hz] at hdq
    grobner
theorem wall_zero {e W : Nat → Nat} (he : ∀ i, e i ≤ 3) : ∀ b i, 3 * b ≤ i → (wall e b W).2 i = 0 := by
  intro b
  induction b with
  | zero => intro i _; rfl
  | succ b ih =>
    intro i hi
    have := he b
    show (wch e b (e b) _ _).2 i = 0
    rw [wch_out (e b) (by omega)]
    exact ih i (by omega)
theorem wall_keep {e W : Nat → Nat} {b i : Nat} (hi : i < 3 * (b + 1)) : ∀ k, (wall e (b + 1 + k) W).2 i = (wall e (b + 1) W).2 i := by
  intro k
  induction k with
  | zero => rfl
  | succ k ih =>
    show (wch e (b + 1 + k) (e (b + 1 + k)) _ _).2 i = _
    rw [wch_out _ (by omega)]
    exact ih
theorem wgc_eq {b k : Nat} {e N : Nat → Nat} (hb : b < 8) (hk1 : 1 ≤ k) (hk3 : k ≤ 3) (he : ∀ i, e i ≤ 3) (hN : okP 32 N) : (wall e 8 N).2 (3 * b + k - 1) = wgc e N b k := by
  have heb := he b
  have hkp : ∀ i, i < 3 * (b + 1) → (wall e 8 N).2 i = (wall e (b + 1) N).2 i := by
    intro i hi
    have := wall_keep (e := e) (W := N) hi (8 - (b + 1))
    rw [show b + 1 + (8 - (b + 1)) = 8 by omega] at this
    exact this
  rw [hkp _ (by omega)]
  unfold wgc wgt
  by_cases hle : k ≤ e b
  · rw [if_pos ⟨hle, by omega⟩]
    obtain ⟨h, hh, hx⟩ := xpn_cl hb he hN
    have hst : Stg e (fun b x => pv (wall e b N).1 80 x) (fun b i => fi ((wall e (b + 1) N).2 (3 * b + (e b - 1 - i)))) := by
      intro b' hb' x
      exact wch_st hb' he x (e b') (wall_ok (hN.mono (by omega)) b').1
    have hw := stg_w he hst (fun b' => (PF.evf (fun j => fi ((wall e b' N).1 j)) 80).congr (fun _ => rfl)) hb hh hx (e b - k) (by omega)
    have hw : fi (xpn e b N (e b - k)) = fi ((wall e (b + 1) N).2 (3 * b + (e b - 1 - (e b - k)))) := hw
    rw [show 3 * b + (e b - 1 - (e b - k)) = 3 * b + k - 1 by omega] at hw
    exact (fi_inj ((xpn_ok e b N).1 _) ((wall_ok (hN.mono (by omega)) (b + 1)).2 _) hw).symm
  · rw [if_neg (by omega)]
    show (wch e b (e b) _ _).2 (3 * b + k - 1) = 0
    rw [wch_out (e b) (by omega)]
    exact wall_zero he b _ (by omega)
section MB
variable {l : Launch} {D : va_G} {cI cT : ClassId} {G : Gm} {S : Sg}
set_option maxHeartbeats 8000000 in
set_option maxRecDepth 100000 in
theorem m_weight {m : Nat} {s c b : Int32} {V : Vt} (hm : isM G m) (hV : MI S m V) (hw : wfV V) : CT (mkE l D cI cT) G y_Model_weight b_Model_weight 4 (some .int) 6 [.ref m, .int s, .int c, .int b] S (Pi (fun S' r => O_wgt V s c b r ∧ MI S' m V ∧ exM m S S')) := by
  have hm0 := hm
  obtain ⟨hM, hco, hex, hra, hpo, hbe, hwe, hro, hle, hva⟩ := hm
  refine mk_i (by decide) (eok l D cI cT) (by simp [Value.category]) (Nat.le_of_ble_eq_true rfl) (fun J X hR => ?_)
  show J S 0 [some (.ref m), some (.int s), some (.int c), some (.int b)] []
  have hbad : ¬ (sl s ∧ sl c ∧ px3 b) → J S 24 [some (.ref m), some (.int s), some (.int c), some (.int b)] [] := by
    intro h
    refine r_bipush X (x := (-9)) d_Model_weight_24 (by decide) ?_
    exact hR _ _ _ _ d_Model_weight_26 rfl ⟨_, rfl, Or.inl ⟨h, rfl⟩, hV, Ex.rf _ _⟩
  refine r_iload_n X d_Model_weight_0 (by rfl) ?_
  refine r_cSi X ls_Model_77 m_slot (by decide) rfl (Nat.le_of_ble_eq_true rfl) d_Model_weight_1 rfl (fun Sx rx hx => ?_)
  obtain ⟨hxs, hx⟩ := hx
  replace hxs := hxs.symm
  subst hxs
  rcases hx with ⟨rfl, g1⟩ | ⟨rfl, g1⟩
  rotate_left
  · refine r_if_eqN X d_Model_weight_4 (tgt := 24) (by decide) (by omega) (fun _ => ?_) (fun hc => absurd rfl hc)
    exact hbad (fun h => g1 h.1)
  refine r_if_eqN X d_Model_weight_4 (tgt := 24) (by decide) (by omega) (fun hc => absurd hc (by decide)) (fun _ => ?_)
  refine r_iload_n X d_Model_weight_7 (by rfl) ?_
  refine r_cSi X ls_Model_77 m_slot (by decide) rfl (Nat.le_of_ble_eq_true rfl) d_Model_weight_8 rfl (fun Sx rx hx => ?_)
  obtain ⟨hxs, hx⟩ := hx
  replace hxs := hxs.symm
  subst hxs
  rcases hx with ⟨rfl, g2⟩ | ⟨rfl, g2⟩
  rotate_left
  · refine r_if_eqN X d_Model_weight_11 (tgt := 24) (by decide) (by omega) (fun _ => ?_) (fun hc => absurd rfl hc)
    exact hbad (fun h => g2 h.2.1)
  refine r_if_eqN X d_Model_weight_11 (tgt := 24) (by decide) (by omega) (fun hc => absurd hc (by decide)) (fun _ => ?_)
  refine r_iload_n X d_Model_weight_14 (by rfl) ?_
  refine r_iconst X (x := (nI 1)) d_Model_weight_15 (by decide) ?_
  refine r_icmp_lt X d_Model_weight_16 (tgt := 24) (by decide) (fun hc => ?_) (fun hc => ?_)
  · refine hbad (fun h => ?_)
    obtain ⟨-, -, k, hk, hk3, e⟩ := h
    rw [e] at hc
    have := (nI_ltI (by omega) (by omega)).mp hc
    omega
  · have hx0 : ¬ b < 0 := by
      intro h
      refine hc ?_
      rw [Int32.lt_iff_toInt_lt, Int32.toInt_zero] at h
      rw [Int32.lt_iff_toInt_lt, nI_toInt (by omega)]
      omega
    obtain ⟨y, hy, rfl⟩ := nI_of hx0
    have hy1 : ¬ y < 1 := fun h => hc ((nI_ltI hy (by omega)).mpr h)
    refine r_iload_n X d_Model_weight_19 (by rfl) ?_
    refine r_iconst X (x := (nI 3)) d_Model_weight_20 (by decide) ?_
    refine r_icmp_leN X d_Model_weight_21 (tgt := 27) (by decide) (by omega) (by omega) (fun hc => ?_) (fun hc => ?_)
    rotate_left
    · refine hbad (fun h => ?_)
      obtain ⟨-, -, k, hk, hk3, e⟩ := h
      have := (nI_eq hy (by omega)).mp e
      omega
    obtain ⟨k, hk, rfl⟩ := g1
    obtain ⟨x, hx, rfl⟩ := g2
    have wk := hw k hk
    refine r_aload_n X d_Model_weight_27 (by rfl) ?_
    refine r_iload_n X d_Model_weight_28 (by rfl) ?_
    refine r_cVv X lv_Model_121 (m_weigh (s := k) hm0 hk hV hw) (by assumption) (by decide) rfl (Nat.le_of_ble_eq_true rfl) d_Model_weight_29 rfl (fun S1 h1 => ?_)
    obtain ⟨hV1, -, h6, hx1⟩ := h1
    refine r_aload_n X d_Model_weight_32 (by rfl) ?_
    refine r_get X lf_Model_25 d_Model_weight_33 (by assumption) (by rfl) ?_
    refine r_iconst X (x := (nI 3)) d_Model_weight_36 (by decide) ?_
    refine r_iload_n X d_Model_weight_37 (by rfl) ?_
    first | refine r_imulN X d_Model_weight_38 ?_ | refine r_imul X d_Model_weight_38 ?_
    refine r_iload_n X d_Model_weight_39 (by rfl) ?_
    first | refine r_iaddN X d_Model_weight_40 ?_ | refine r_iadd X d_Model_weight_40 ?_
    refine r_iconst X (x := (nI 1)) d_Model_weight_41 (by decide) ?_
    first | refine r_isubN X d_Model_weight_42 (by omega) ?_ | refine r_isub X d_Model_weight_42 ?_
    refine r_iald X d_Model_weight_43 (by assumption) (by omega) (by omega) ?_
    rw [h6, wgc_eq hx (by omega) hc wk.2.1 wk.1]
    exact hR _ _ _ _ d_Model_weight_44 rfl ⟨_, rfl, Or.inr ⟨k, x, y, hk, hx, by omega, hc, rfl, rfl, rfl, rfl⟩, hV1, hx1.mono (fun a h => by omega)⟩
end MB
