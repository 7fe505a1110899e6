theorem PF.mulT {n m : Nat} {φ ψ : Fp → Fp} (h : PF (n + 1) φ) (h2 : PF m ψ) : PF (n + m) (fun x => φ x * ψ x) := by
  obtain ⟨f, hf⟩ := h
  induction n generalizing f φ with
  | zero =>
    refine ((h2.smul (f 0)).mono (m := 0 + m) (by omega)).congr (fun x => ?_)
    rw [hf]
    simp only [ev]
    grobner
  | succ n ih =>
    have h3 := ih (φ := ev (fun i => f (i + 1)) (n + 1)) (fun i => f (i + 1)) (fun x => rfl)
    refine (((h2.smul (f 0)).mono (m := n + 1 + m) (by omega)).add ((h3.xmul).mono (m := n + 1 + m) (by omega))).congr (fun x => ?_)
    rw [hf]
    show (f 0 + x * ev (fun i => f (i + 1)) (n + 1) x) * ψ x = _
    grobner
theorem PF.neg {n : Nat} {φ : Fp → Fp} (h : PF n φ) : PF n (fun x => -φ x) := (h.smul (-1)).congr (fun x => by grobner)
theorem PF.sub {n : Nat} {φ ψ : Fp → Fp} (h : PF n φ) (h2 : PF n ψ) : PF n (fun x => φ x - ψ x) := (h.add h2.neg).congr (fun x => by grobner)
def pp (e : Nat → Nat) : Nat → Fp → Fp
  | 0, _ => 1
  | m + 1, x => pp e m x * px (x + fi m) (e m)
def sE (e : Nat → Nat) : Nat → Nat
  | 0 => 0
  | m + 1 => sE e m + e m
theorem PF.ppf (e : Nat → Nat) (m : Nat) : PF (sE e m + 1) (pp e m) := by
  induction m with
  | zero => exact PF.const 1 (by omega)
  | succ m ih => exact ((ih.mulT (PF.lpow (fi m) (e m))).mono (by show sE e m + (e m + 1) ≤ sE e m + e m + 1; omega)).congr (fun x => rfl)
theorem pp_ext {e f : Nat → Nat} {m : Nat} (h : ∀ i, i < m → e i = f i) (x : Fp) : pp e m x = pp f m x := by
  induction m with
  | zero => rfl
  | succ m ih =>
    show pp e m x * px (x + fi m) (e m) = pp f m x * px (x + fi m) (f m)
    rw [ih (fun i hi => h i (by omega)), h m (by omega)]
theorem pp_out {e : Nat → Nat} {m b : Nat} (hb : b < m) (x : Fp) : pp e m x = px (x + fi b) (e b) * pp (va_up e b 0) m x := by
  induction m with
  | zero => omega
  | succ m ih =>
    show pp e m x * px (x + fi m) (e m) = px (x + fi b) (e b) * (pp (va_up e b 0) m x * px (x + fi m) (va_up e b 0 m))
    by_cases h : b = m
    · subst h
      rw [va_up_s, pp_ext (e := va_up e b 0) (f := e) (fun i hi => va_up_n (by omega)), px_0]
      grobner
    · rw [ih (by omega), va_up_n (f := e) (k := b) (j := m) (v := 0) (fun z => h z.symm)]
      grobner
theorem pow_ne {x : Fp} (h : x ≠ 0) (n : Nat) : px x n ≠ 0 := by
  induction n with
  | zero =>
    rw [px_0]
    exact fi_ne (a := 1) (by omega) (by omega)
  | succ n ih =>
    rw [px_s]
    exact fp_mul_ne ih h
theorem pp_ne {e : Nat → Nat} {m : Nat} {x : Fp} (h : ∀ o, o < m → e o ≠ 0 → x + fi o ≠ 0) : pp e m x ≠ 0 := by
  induction m with
  | zero => exact fi_ne (a := 1) (by omega) (by omega)
  | succ m ih =>
    show pp e m x * px (x + fi m) (e m) ≠ 0
    refine fp_mul_ne (ih (fun o ho => h o (by omega))) ?_
    by_cases h0 : e m = 0
    · rw [h0]
      rw [px_0]
      exact fi_ne (a := 1) (by omega) (by omega)
    · exact pow_ne (h m (by omega) h0) _
theorem ev_split (s : Nat → Fp) (n k : Nat) (y : Fp) : ev s (n + k) y = ev s n y + px y n * ev (fun i => s (n + i)) k y := by
  induction n generalizing s with
  | zero =>
    simp only [ev, Nat.zero_add]
    rw [px_0]
    grobner
  | succ n ih =>
    rw [show n + 1 + k = (n + k) + 1 by omega, px_s]
    simp only [ev]
    rw [ih (fun i => s (i + 1))]
    rw [ev_ext (f := fun i => s (n + 1 + i)) (g := fun i => s (n + i + 1)) (fun i _ => by rw [show n + 1 + i = n + i + 1 by omega])]
    grobner
theorem ser_step {b o : Nat} {δ : Fp} (hδ : fi b + δ = fi o) {Nf D h : Fp → Fp} {s s' : Nat → Fp} (hD : PF 100 D) (hh : PF 100 h) (h0 : δ * s' 0 = s 0) (h1 : δ * s' 1 = s 1 - s' 0) (h2 : δ * s' 2 = s 2 - s' 1)
    (heq : ∀ x, Nf x = ev s 3 (x + fi b) * D x + px (x + fi b) 3 * h x) : ∃ h', PF 100 h' ∧ ∀ x, Nf x = ev s' 3 (x + fi b) * (D x * (x + fi o)) + px (x + fi b) 3 * h' x := by
  refine ⟨fun x => h x - s' 2 * D x, hh.sub (hD.smul (s' 2)), fun x => ?_⟩
  rw [heq x, ← hδ]
  show (s 0 + (x + fi b) * (s 1 + (x + fi b) * (s 2 + (x + fi b) * 0))) * D x + 1 * (x + fi b) * (x + fi b) * (x + fi b) * h x = (s' 0 + (x + fi b) * (s' 1 + (x + fi b) * (s' 2 + (x + fi b) * 0))) * (D x * (x + (fi b + δ))) + 1 * (x + fi b) * (x + fi b) * (x + fi b) * (h x - s' 2 * D x)
  have g0 : s 0 = δ * s' 0 := h0.symm
  have g1 : s 1 = δ * s' 1 + s' 0 := by grobner
  have g2 : s 2 = δ * s' 2 + s' 1 := by grobner
  rw [g0, g1, g2]
  grobner
theorem wt_eq {b n : Nat} (hb : b < 9) (hn : n ≤ 3) {Nf B h H : Fp → Fp} {s t : Nat → Fp} (hB : PF 200 B) (hh : PF 200 h) (hH : PF 200 H) (hB0 : B (-fi b) ≠ 0)
    (h1 : ∀ x, Nf x = ev s 3 (x + fi b) * B x + px (x + fi b) 3 * h x) (h2 : ∀ x, Nf x = ev t n (x + fi b) * B x + px (x + fi b) n * H x) : ∀ i, i < n → s i = t i := by
  intro i hi
  have hk := ser_u (B := B) (h := fun x => ev (fun i => s (n + i)) (3 - n) (x + fi b) * B x + px (x + fi b) (3 - n) * h x - H x) (m := 500) hb (hB.mono (by omega))
    ((((((PF.evs (fun i => s (n + i)) (3 - n) (fi b)).mul hB).mono (m := 500) (by omega)).add (((PF.lpow (fi b) (3 - n)).mul hh).mono (m := 500) (by omega))).sub (hH.mono (m := 500) (by omega))).congr (fun x => rfl)) (by omega) hB0 n (fun i => s i + (-1) * t i) (by omega) (fun x _ => by
      have e1 := h1 x
      have e2 := h2 x
      have e3 := ev_split s n (3 - n) (x + fi b)
      rw [show n + (3 - n) = 3 by omega] at e3
      have e4 : px (x + fi b) 3 = px (x + fi b) n * px (x + fi b) (3 - n) := by
        rw [← px_add, show n + (3 - n) = 3 by omega]
      rw [ev_add s (fun i => (-1) * t i), ev_smul]
      grobner) i hi
  grobner
theorem PF.div {m : Nat} {R : Fp → Fp} (h : PF (m + 1) R) (b : Fp) : ∃ R', PF m R' ∧ ∀ x, R x = (x + b) * R' x + R (-b) := by
  obtain ⟨f, hf⟩ := h
  refine ⟨ev (dv (-b) f (m + 1)) m, ⟨_, fun _ => rfl⟩, fun x => ?_⟩
  have := ev_dv (-b) f (m + 1) x
  rw [Nat.add_sub_cancel] at this
  rw [hf x, hf (-b), this]
  grobner
theorem q_uni {b n : Nat} (hb : b < 9) {q1 q2 : Fp → Fp} {u v : Fp} (h1 : PF n q1) (h2 : PF n q2) (hn : n ≤ 9000) (h : ∀ x, (x + fi b) * q1 x + u = (x + fi b) * q2 x + v) (x : Fp) : q1 x = q2 x := by
  have h0 := h (-fi b)
  have huv : u = v := by grobner
  have := (h1.sub h2).null hn (fun y hy => by
    have h3 := h y
    refine fp_zero (x := y + fi b) ?_ (hy b hb)
    grobner) x
  grobner
theorem ch_step {b j c : Nat} (hb : b < 9) {f q D W R : Fp → Fp} {u : Fp} (hq : PF 200 q) (hD : PF 200 D) (hW : PF 200 W) (hj : j ≤ 10) (hc : j + c ≤ 100) (hR : PF (j + 1 + c) R) (h1 : ∀ x, f x = px (x + fi b) (j + 1) * D x * W x + R x) (h2 : ∀ x, f x = (x + fi b) * q x + u) : ∃ R', PF (j + c) R' ∧ ∀ x, q x = px (x + fi b) j * D x * W x + R' x := by
  obtain ⟨R', hR', hr⟩ := (hR.mono (m := j + c + 1) (by omega)).div (fi b)
  refine ⟨R', hR', fun x => ?_⟩
  refine q_uni (n := 1000) hb (u := u) (v := R (-fi b)) (q2 := fun x => px (x + fi b) j * D x * W x + R' x) (hq.mono (by omega)) ?_ (by omega) (fun y => ?_) x
  · exact ((((PF.lpow (fi b) j).mul hD).mul hW).mono (by omega)).add (hR'.mono (by omega))
  · rw [← h2, h1, hr y, px_s]
    grobner
def lfb (e : Nat → Nat) (b : Nat) : Nat → Nat := fun i => if i ≤ b then 0 else e i
theorem pp_lfb (e : Nat → Nat) (b x) : ∀ m, m ≤ b + 1 → pp (lfb e b) m x = 1 := by
  intro m
  induction m with
  | zero => intro _; rfl
  | succ m ih =>
    intro h
    show pp (lfb e b) m x * px (x + fi m) (lfb e b m) = 1
    rw [ih (by omega), show lfb e b m = 0 by unfold lfb; rw [if_pos (by omega)], px_0]
    grobner
theorem pp_mid (e : Nat → Nat) (b : Nat) (x : Fp) : ∀ m, b < m → pp (va_up e b 0) m x = pp e b x * pp (lfb e b) m x := by
  intro m
  induction m with
  | zero => intro h; omega
  | succ m ih =>
    intro h
    show pp (va_up e b 0) m x * px (x + fi m) (va_up e b 0 m) = pp e b x * (pp (lfb e b) m x * px (x + fi m) (lfb e b m))
    by_cases hm : b = m
    · subst hm
      rw [va_up_s, pp_ext (e := va_up e b 0) (f := e) (fun i hi => va_up_n (by omega)), pp_lfb e b x b (by omega), show lfb e b b = 0 by unfold lfb; rw [if_pos (by omega)], px_0]
      grobner
    · rw [ih (by omega), va_up_n (f := e) (k := b) (j := m) (v := 0) (fun z => hm z.symm), show lfb e b m = e m by unfold lfb; rw [if_neg (by omega)]]
      grobner
theorem sE_lfb (e : Nat → Nat) (b : Nat) : ∀ m, b < m → sE e b + e b + sE (lfb e b) m = sE e m := by
  have h0 : ∀ m, m ≤ b + 1 → sE (lfb e b) m = 0 := by
    intro m
    induction m with
    | zero => intro _; rfl
    | succ m ih =>
      intro h
      show sE (lfb e b) m + lfb e b m = 0
      rw [ih (by omega), show lfb e b m = 0 by unfold lfb; rw [if_pos (by omega)]]
  intro m
  induction m with
  | zero => intro h; omega
  | succ m ih =>
    intro h
    show sE e b + e b + (sE (lfb e b) m + lfb e b m) = sE e m + e m
    by_cases hm : b = m
    · subst hm
      rw [h0 b (by omega), show lfb e b b = 0 by unfold lfb; rw [if_pos (by omega)]]
      omega
    · have := ih (by omega)
      rw [show lfb e b m = e m by unfold lfb; rw [if_neg (by omega)]]
      omega
def Stg (e : Nat → Nat) (Wf : Nat → Fp → Fp) (T : Nat → Nat → Fp) : Prop := ∀ b, b < 8 → ∀ x, Wf b x = ev (T b) (e b) (x + fi b) * pp (lfb e b) 8 x + px (x + fi b) (e b) * Wf (b + 1) x
theorem stg_a {e : Nat → Nat} {Wf : Nat → Fp → Fp} {T : Nat → Nat → Fp} (he : ∀ i, e i ≤ 3) (hs : Stg e Wf T) : ∀ b b', b ≤ b' → b' < 8 → ∃ H, PF 200 H ∧ ∀ x, Wf 0 x = pp e b x * Wf b x + px (x + fi b') (e b') * H x := by
  have hsE : ∀ (f : Nat → Nat) m, (∀ i, f i ≤ 3) → sE f m ≤ 3 * m := by
    intro f m hf
    induction m with
    | zero => exact Nat.le_refl _
    | succ m ih => have := hf m; show sE f m + f m ≤ _; omega
  intro b
  induction b with
  | zero =>
    intro b' _ _
    refine ⟨fun _ => 0, PF.zero _, fun x => ?_⟩
    show _ = 1 * Wf 0 x + _
    grobner
  | succ b ih =>
    intro b' h1 h2
    obtain ⟨H, hH, heq⟩ := ih b' (by omega) h2
    have hf : ∀ i, va_up (lfb e b) b' 0 i ≤ 3 := by
      intro i
      unfold va_up lfb
      split
      · omega
      · split
        · omega
        · exact he i
    refine ⟨fun x => H x + pp e b x * ev (T b) (e b) (x + fi b) * pp (va_up (lfb e b) b' 0) 8 x, ?_, fun x => ?_⟩
    · have k1 := hsE e b he
      have k2 := hsE _ 8 hf
      have k3 := he b
      refine hH.add ((((PF.ppf e b).mul (PF.evs (T b) (e b) (fi b))).mul (PF.ppf (va_up (lfb e b) b' 0) 8)).mono (by omega))
    · rw [heq x, hs b (by omega) x]
      show _ = pp e b x * px (x + fi b) (e b) * Wf (b + 1) x + _
      rw [pp_out (e := lfb e b) (b := b') h2 x, show lfb e b b' = e b' by unfold lfb; rw [if_neg (by omega)]]
      grobner
theorem stg_b {e : Nat → Nat} {Wf : Nat → Fp → Fp} {T : Nat → Nat → Fp} (hs : Stg e Wf T) : ∀ b, b ≤ 8 → ∃ R, PF (sE e 8) R ∧ ∀ x, Wf 0 x = pp e b x * Wf b x + R x := by
  intro b
  induction b with
  | zero =>
    intro _
    refine ⟨fun _ => 0, PF.zero _, fun x => ?_⟩
    show _ = 1 * Wf 0 x + _
    grobner
  | succ b ih =>
    intro h1
    obtain ⟨R, hR, heq⟩ := ih (by omega)
    refine ⟨fun x => R x + pp e b x * pp (lfb e b) 8 x * ev (T b) (e b) (x + fi b), ?_, fun x => ?_⟩
    · have k := sE_lfb e b 8 (by omega)
      refine hR.add (((((PF.ppf e b).mulT (PF.ppf (lfb e b) 8)).mono (m := sE e b + sE (lfb e b) 8 + 1) (by omega)).mulT (PF.evs (T b) (e b) (fi b))).mono (by omega))
    · rw [heq x, hs b (by omega) x]
      show _ = pp e b x * px (x + fi b) (e b) * Wf (b + 1) x + _
      grobner
theorem stg_w {e : Nat → Nat} {Wf : Nat → Fp → Fp} {T : Nat → Nat → Fp} (he : ∀ i, e i ≤ 3) (hs : Stg e Wf T) (hW : ∀ b, PF 80 (Wf b)) {b : Nat} (hb : b < 8) {s : Nat → Fp} {h : Fp → Fp} (hh : PF 100 h)
    (h1 : ∀ x, Wf 0 x = ev s 3 (x + fi b) * pp (va_up e b 0) 8 x + px (x + fi b) 3 * h x) : ∀ i, i < e b → s i = T b i := by
  have hsE : ∀ (f : Nat → Nat) m, (∀ i, f i ≤ 3) → sE f m ≤ 3 * m := by
    intro f m hf
    induction m with
    | zero => exact Nat.le_refl _
    | succ m ih => have := hf m; show sE f m + f m ≤ _; omega
  obtain ⟨H, hH, heq⟩ := stg_a he hs b b (Nat.le_refl _) hb
  have hf : ∀ i, va_up e b 0 i ≤ 3 := by
    intro i
    unfold va_up
    split
    · omega
    · exact he i
  have k1 := hsE e b he
  have k2 := hsE _ 8 hf
  refine wt_eq (h := h) (H := fun x => pp e b x * Wf (b + 1) x + H x) (by omega) (he b) ((PF.ppf (va_up e b 0) 8).mono (by omega)) (hh.mono (by omega)) ((((PF.ppf e b).mul (hW (b + 1))).mono (by omega)).add hH) ?_ h1 (fun x => ?_)
  · refine pp_ne (fun o ho h0 => ?_)
    have hne : o ≠ b := fun z => h0 (by rw [z, va_up_s])
    intro hz
    have : fi o = fi b := by grobner
    exact hne (fi_inj (by omega) (by omega) this)
  · rw [heq x, hs b hb x, pp_mid e b x 8 hb]
    grobner
def yv (W : Fp → Fp) (back : Fp) : Nat → Fp
  | 0 => 0
  | j + 1 => (yv W back j + W (fi j)) * back
theorem yv_x {z back : Fp} (hz : z * back = 1) {X W : Fp → Fp} (h : ∀ x, z * X (x + 1) - X x = W x) (j : Nat) : X (fi j) = yv W back j + X 0 * px back j := by
  induction j with
  | zero =>
    show X 0 = 0 + X 0 * px back 0
    rw [px_0]
    grobner
  | succ j ih =>
    have h1 := h (fi j)
    rw [fi_add, fi_1]
    show _ = (yv W back j + W (fi j)) * back + X 0 * px back (j + 1)
    rw [px_s]
    grobner
theorem yv_df {z back : Fp} (hz : z * back = 1) {X W : Fp → Fp} (h : ∀ x, z * X (x + 1) - X x = W x) (i : Nat) : df (fun j => X (fi j)) i 0 = df (yv W back) i 0 + X 0 * px (back - 1) i := by
  have e : (fun j => X (fi j)) = (fun j => yv W back j + X 0 * px back j) := by
    funext j
    exact yv_x hz h j
  rw [e, df_lin (yv W back) (fun j => px back j) (X 0) i 0, df_pow, px_0]
  grobner
theorem slv_1 {X W : Fp → Fp} (hX : PF 33 X) (h0 : X 0 = 0) (h : ∀ x, 1 * X (x + 1) - X x = W x) (x : Fp) : nw (fun m => df (yv W 1) m 0 * inv (fc m)) 33 x = X x := by
  refine PF.eqn (n := 33) (PF.newt _ _) hX (by omega) (fun j hj => ?_) x
  have e : (fun m => df (yv W 1) m 0 * inv (fc m)) = nc (fun j => X (fi j)) := by
    funext m
    unfold nc
    rw [yv_df (z := 1) (back := 1) (by grobner) h m, h0]
    grobner
  rw [e, newton j 32 _ (by omega) (by omega)]
theorem slv_z {z back : Fp} (hz : z * back = 1) (h1 : z ≠ 1) {X W : Fp → Fp} (hX : PF 32 X) (h : ∀ x, z * X (x + 1) - X x = W x) (x : Fp) : nw (fun m => (df (yv W back) m 0 + (-df (yv W back) 32 0) * inv (px (back - 1) 32) * px (back - 1) m) * inv (fc m)) 33 x = X x := by
  have hb : back - 1 ≠ 0 := by
    intro hb
    exact h1 (by grobner)
  have h32 := df_deg hX (by omega)
  have hd := yv_df hz h 32
  rw [h32] at hd
  have hi := mul_inv (pow_ne hb 32)
  have hx0 : (-df (yv W back) 32 0) * inv (px (back - 1) 32) = X 0 := by grobner
  refine PF.eqn (n := 33) (PF.newt _ _) (hX.mono (by omega)) (by omega) (fun j hj => ?_) x
  have e : (fun m => (df (yv W back) m 0 + (-df (yv W back) 32 0) * inv (px (back - 1) 32) * px (back - 1) m) * inv (fc m)) = nc (fun j => X (fi j)) := by
    funext m
    unfold nc
    rw [yv_df hz h m, hx0]
  rw [e, newton j 32 _ (by omega) (by omega)]
