theorem PF.lin {n : Nat} (b : Fp) {φ : Fp → Fp} (h : PF n φ) : PF (n + 1) (fun x => (x + b) * φ x) :=
  ((h.xmul).add ((h.smul b).mono (by omega))).congr (fun x => by grobner)
theorem PF.evs (t : Nat → Fp) (n : Nat) (b : Fp) : PF n (fun x => ev t n (x + b)) := by
  induction n generalizing t with
  | zero => exact PF.zero _
  | succ n ih =>
    refine ((PF.const (n := n + 1) (t 0) (by omega)).add ((ih (fun i => t (i + 1))).lin b)).congr (fun x => ?_)
    simp only [ev]
theorem PF.evf (f : Nat → Fp) (n : Nat) : PF n (ev f n) := ⟨f, fun _ => rfl⟩
theorem PF.lpow (b : Fp) (n : Nat) : PF (n + 1) (fun x => px (x + b) n) := by
  induction n with
  | zero => exact (PF.const (n := 1) 1 (by omega)).congr (fun x => rfl)
  | succ n ih => exact (ih.lin b).congr (fun x => by rw [px_s]; grobner)
theorem ser_u {b m : Nat} (hb : b < 9) {B h : Fp → Fp} (hB : PF m B) (hh : PF m h) (hm : m ≤ 4000) (hB0 : B (-fi b) ≠ 0) : ∀ (n : Nat) (t : Nat → Fp), n ≤ 100 → (∀ x, npl x → ev t n (x + fi b) * B x + px (x + fi b) n * h x = 0) → ∀ i, i < n → t i = 0 := by
  intro n
  induction n with
  | zero => intro t _ _ i hi; omega
  | succ n ih =>
    intro t hn hz
    have hpf : PF (n + 1 + m + (n + 1 + 1 + m)) (fun x => ev t (n + 1) (x + fi b) * B x + px (x + fi b) (n + 1) * h x) :=
      (((PF.evs t (n + 1) (fi b)).mul hB).mono (by omega)).add (((PF.lpow (fi b) (n + 1)).mul hh).mono (by omega))
    have h0 := hpf.null (by omega) hz (-fi b)
    have ht : t 0 = 0 := by
      have e1 : ev t (n + 1) (-fi b + fi b) = t 0 := by
        rw [show -fi b + fi b = (0 : Fp) by grobner]
        simp only [ev]
        grobner
      have e2 : px (-fi b + fi b) (n + 1) = (0 : Fp) := by
        rw [show -fi b + fi b = (0 : Fp) by grobner, px_s]
        grobner
      simp only [e1, e2] at h0
      refine fp_zero (x := B (-fi b)) ?_ hB0
      grobner
    have hr := ih (fun i => t (i + 1)) (by omega) (fun x hx => by
      have h1 := hz x hx
      have h2 : x + fi b ≠ 0 := hx b hb
      refine fp_zero (x := x + fi b) ?_ h2
      rw [px_s] at h1
      simp only [ev] at h1
      rw [ht] at h1
      grobner)
    intro i hi
    cases i with
    | zero => exact ht
    | succ i => exact hr i (by omega)
def df (y : Nat → Fp) : Nat → Nat → Fp
  | 0, j => y j
  | i + 1, j => df y i (j + 1) - df y i j
theorem df_s (y : Nat → Fp) (i j : Nat) : df y (i + 1) j = df (fun k => y (k + 1) - y k) i j := by
  induction i generalizing j with
  | zero => rfl
  | succ i ih =>
    show df y (i + 1) (j + 1) - df y (i + 1) j = df (fun k => y (k + 1) - y k) i (j + 1) - df (fun k => y (k + 1) - y k) i j
    rw [ih, ih]
theorem df_lin (y w : Nat → Fp) (c : Fp) (i j : Nat) : df (fun k => y k + c * w k) i j = df y i j + c * df w i j := by
  induction i generalizing j with
  | zero => rfl
  | succ i ih =>
    show df (fun k => y k + c * w k) i (j + 1) - df (fun k => y k + c * w k) i j = df y i (j + 1) - df y i j + c * (df w i (j + 1) - df w i j)
    rw [ih, ih]
    grobner
theorem df_pow (q : Fp) (i j : Nat) : df (fun k => px q k) i j = px (q - 1) i * px q j := by
  induction i generalizing j with
  | zero => show px q j = px (q - 1) 0 * px q j; rw [px_0]; grobner
  | succ i ih =>
    show df (fun k => px q k) i (j + 1) - df (fun k => px q k) i j = _
    rw [ih, ih, px_s, px_s]
    grobner
def ff (x : Fp) : Nat → Fp
  | 0 => 1
  | m + 1 => ff x m * (x - fi m)
theorem ff_s (x : Fp) (m : Nat) : ff (x + 1) (m + 1) = (x + 1) * ff x m := by
  induction m with
  | zero => simp only [ff]; rw [fi_0]; grobner
  | succ m ih =>
    show ff (x + 1) (m + 1) * (x + 1 - fi (m + 1)) = (x + 1) * (ff x m * (x - fi m))
    rw [ih, fi_add, fi_1]
    grobner
theorem ff_d (x : Fp) (m : Nat) : ff (x + 1) (m + 1) = ff x (m + 1) + fi (m + 1) * ff x m := by
  rw [ff_s]
  show _ = ff x m * (x - fi m) + _
  rw [fi_add, fi_1]
  grobner
theorem ff_0 (m : Nat) : ff 0 (m + 1) = 0 := by
  induction m with
  | zero => simp only [ff]; rw [fi_0]; grobner
  | succ m ih =>
    show ff 0 (m + 1) * (0 - fi (m + 1)) = 0
    rw [ih]
    grobner
def fc : Nat → Fp
  | 0 => 1
  | m + 1 => fi (m + 1) * fc m
theorem fc_ne {m : Nat} (h : m < 10007) : fc m ≠ 0 := by
  induction m with
  | zero => exact fi_ne (a := 1) (by omega) (by omega)
  | succ m ih => exact fp_mul_ne (fi_ne (by omega) h) (ih (by omega))
theorem inv_u {x y : Fp} (h : x * y = 1) : inv x = y := by
  have hx : x ≠ 0 := by
    intro e
    rw [e] at h
    have : (0 : Fp) = 1 := by grobner
    exact absurd this (by decide)
  have := mul_inv hx
  grobner
theorem inv_mul {x y : Fp} (hx : x ≠ 0) (hy : y ≠ 0) : inv (x * y) = inv x * inv y := by
  refine inv_u ?_
  have h1 := mul_inv hx
  have h2 := mul_inv hy
  grobner
def nw (c : Nat → Fp) : Nat → Fp → Fp
  | 0, _ => 0
  | n + 1, x => nw c n x + c n * ff x n
def nc (y : Nat → Fp) (m : Nat) : Fp := df y m 0 * inv (fc m)
theorem nw_d (y : Nat → Fp) {n : Nat} (hn : n < 10000) (x : Fp) : nw (nc y) (n + 1) (x + 1) = nw (nc y) (n + 1) x + nw (nc (fun k => y (k + 1) - y k)) n x := by
  induction n with
  | zero => simp only [nw, ff]; grobner
  | succ n ih =>
    have h1 := ih (by omega)
    show nw (nc y) (n + 1) (x + 1) + nc y (n + 1) * ff (x + 1) (n + 1) = nw (nc y) (n + 1) x + nc y (n + 1) * ff x (n + 1) + (nw (nc (fun k => y (k + 1) - y k)) n x + nc (fun k => y (k + 1) - y k) n * ff x n)
    rw [h1, ff_d]
    have h2 : nc y (n + 1) * fi (n + 1) = nc (fun k => y (k + 1) - y k) n := by
      unfold nc
      rw [df_s]
      show _ * inv (fi (n + 1) * fc n) * _ = _
      have h3 : fi (n + 1) ≠ 0 := fi_ne (by omega) (by omega)
      rw [inv_mul h3 (fc_ne (by omega))]
      have := mul_inv h3
      grobner
    grobner
theorem nw_0 (c : Nat → Fp) (n : Nat) : nw c (n + 1) 0 = c 0 := by
  induction n with
  | zero => simp only [nw, ff]; grobner
  | succ n ih =>
    show nw c (n + 1) 0 + c (n + 1) * ff 0 (n + 1) = c 0
    rw [ih, ff_0]
    grobner
theorem newton : ∀ (j n : Nat) (y : Nat → Fp), j ≤ n → n < 10000 → nw (nc y) (n + 1) (fi j) = y j := by
  intro j
  induction j with
  | zero =>
    intro n y _ _
    rw [fi_0, nw_0]
    show df y 0 0 * inv (fc 0) = y 0
    have : inv (fc 0) = 1 := inv_u (by show (1 : Fp) * 1 = 1; grobner)
    rw [this]
    show y 0 * 1 = y 0
    grobner
  | succ j ih =>
    intro n y hj hn
    rw [fi_add, fi_1, nw_d y hn, ih n y (by omega) hn]
    cases n with
    | zero => omega
    | succ n =>
      rw [ih n _ (by omega) (by omega)]
      grobner
def hw (c : Nat → Fp) : Nat → Nat → Fp → Fp
  | 0, _, _ => 0
  | m + 1, i, x => c i + (x - fi i) * hw c m (i + 1) x
theorem hw_nw (c : Nat → Fp) (m i : Nat) (x : Fp) : nw c (i + m) x = nw c i x + ff x i * hw c m i x := by
  induction m generalizing i with
  | zero => simp only [hw, Nat.add_zero]; grobner
  | succ m ih =>
    have h1 := ih (i + 1)
    rw [show i + (m + 1) = i + 1 + m by omega, h1]
    show nw c i x + c i * ff x i + ff x i * (x - fi i) * hw c m (i + 1) x = nw c i x + ff x i * (c i + (x - fi i) * hw c m (i + 1) x)
    grobner
theorem PF.fall (m : Nat) : PF (m + 1) (fun x => ff x m) := by
  induction m with
  | zero => exact (PF.const (n := 1) 1 (by omega))
  | succ m ih =>
    refine (ih.lin (-fi m)).congr (fun x => ?_)
    show ff x m * (x - fi m) = _
    grobner
theorem PF.newt (c : Nat → Fp) (n : Nat) : PF n (nw c n) := by
  induction n with
  | zero => exact PF.zero _
  | succ n ih => exact ((ih.mono (by omega)).add ((PF.fall n).smul (c n))).congr (fun x => rfl)
theorem PF.eqn {n : Nat} {φ ψ : Fp → Fp} (h1 : PF n φ) (h2 : PF n ψ) (hn : n ≤ 10000) (h : ∀ j, j < n → φ (fi j) = ψ (fi j)) (x : Fp) : φ x = ψ x := by
  obtain ⟨f, hf⟩ := h1
  obtain ⟨g, hg⟩ := h2
  rw [hf, hg]
  refine ev_ext (ev_inj (a := fi) (fun i j hi hj e => fi_inj (by omega) (by omega) e) (fun i hi => ?_)) x
  rw [← hf, ← hg, h i hi]
theorem df_deg {n : Nat} {φ : Fp → Fp} (h : PF n φ) (hn : n < 9000) : df (fun j => φ (fi j)) n 0 = 0 := by
  have h1 : ∀ x, φ x = nw (nc (fun j => φ (fi j))) n x := by
    cases n with
    | zero => obtain ⟨f, hf⟩ := h; intro x; rw [hf]; rfl
    | succ n =>
      refine fun x => PF.eqn h (PF.newt _ _) (by omega) (fun j hj => ?_) x
      rw [newton j n _ (by omega) (by omega)]
  have h2 := newton n n (fun j => φ (fi j)) (by omega) (by omega)
  have h3 : nw (nc (fun j => φ (fi j))) n (fi n) + nc (fun j => φ (fi j)) n * ff (fi n) n = φ (fi n) := h2
  rw [← h1] at h3
  have h4 : ∀ m, m ≤ n → ff (fi n) m ≠ 0 := by
    intro m
    induction m with
    | zero => intro _; exact fi_ne (a := 1) (by omega) (by omega)
    | succ m ih =>
      intro hm
      refine fp_mul_ne (ih (by omega)) (fun e => ?_)
      have : fi n = fi m := by grobner
      have := fi_inj (by omega) (by omega) this
      omega
  have h5 : nc (fun j => φ (fi j)) n = 0 := by
    refine fp_zero (x := ff (fi n) n) ?_ (h4 n (by omega))
    grobner
  have h6 := mul_inv (fc_ne (m := n) (by omega))
  unfold nc at h5
  grobner
