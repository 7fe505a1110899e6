abbrev Fp : Type := Fin 10007
def fi (n : Nat) : Fp := Fin.ofNat 10007 n
theorem fi_val (n : Nat) : (fi n).val = n % 10007 := rfl
theorem fi_add (a b : Nat) : fi (a + b) = fi a + fi b := by
  apply Fin.ext
  show (a + b) % 10007 = (a % 10007 + b % 10007) % 10007
  omega
theorem fi_mul (a b : Nat) : fi (a * b) = fi a * fi b := by
  apply Fin.ext
  show (a * b) % 10007 = (a % 10007 * (b % 10007)) % 10007
  exact Nat.mul_mod a b 10007
theorem fi_mod (a : Nat) : fi (a % 10007) = fi a := by
  apply Fin.ext
  show a % 10007 % 10007 = a % 10007
  omega
theorem fi_0 : fi 0 = 0 := rfl
theorem fi_1 : fi 1 = 1 := rfl
theorem fi_p : fi 10007 = 0 := rfl
theorem fi_inj {a b : Nat} (ha : a < 10007) (hb : b < 10007) (h : fi a = fi b) : a = b := by
  have h1 : a % 10007 = b % 10007 := congrArg Fin.val h
  omega
theorem fi_ne {a : Nat} (h0 : 0 < a) (ha : a < 10007) : fi a ≠ 0 := by
  intro h
  have := fi_inj ha (b := 0) (by omega) h
  omega
theorem fi_of (x : Fp) : ∃ n : Nat, n < 10007 ∧ x = fi n := ⟨x.val, x.isLt, by apply Fin.ext; show x.val = x.val % 10007; have := x.isLt; omega⟩
def px (x : Fp) : Nat → Fp
  | 0 => 1
  | n + 1 => px x n * x
theorem px_0 (x : Fp) : px x 0 = 1 := rfl
theorem px_s (x : Fp) (n : Nat) : px x (n + 1) = px x n * x := rfl
theorem px_add (x : Fp) (a b : Nat) : px x (a + b) = px x a * px x b := by
  induction b with
  | zero => rw [Nat.add_zero, px_0]; grobner
  | succ b ih => rw [← Nat.add_assoc, px_s, px_s, ih]; grobner
theorem px_mul (x y : Fp) (n : Nat) : px (x * y) n = px x n * px y n := by
  induction n with
  | zero => rw [px_0, px_0, px_0]; grobner
  | succ n ih => rw [px_s, px_s, px_s, ih]; grobner
def pwr : Nat → Nat → Nat → Nat → Nat
  | 0, y, _, _ => y
  | fuel + 1, y, f, n => if n = 0 then y else pwr fuel (if n % 2 = 1 then y * f % 10007 else y) (f * f % 10007) (n / 2)
def pw (x n : Nat) : Nat := pwr 32 1 x n
def iv (x : Nat) : Nat := pw x 10005
theorem pwr_fi : ∀ (fuel y f n : Nat), n < 2 ^ fuel → fi (pwr fuel y f n) = fi y * px (fi f) n := by
  intro fuel
  induction fuel with
  | zero =>
    intro y f n h
    have : n = 0 := by omega
    subst this
    simp only [pwr]
    rw [px_0]
    grobner
  | succ fuel ih =>
    intro y f n h
    simp only [pwr]
    by_cases h0 : n = 0
    · rw [if_pos h0, h0, px_0]
      grobner
    · rw [if_neg h0, ih _ _ _ (by omega), fi_mod, fi_mul, px_mul, ← px_add]
      by_cases h1 : n % 2 = 1
      · rw [if_pos h1, fi_mod, fi_mul]
        have e : n = n / 2 + n / 2 + 1 := by omega
        generalize n / 2 = q at e
        rw [e, px_s]
        grobner
      · rw [if_neg h1]
        have e : n = n / 2 + n / 2 := by omega
        rw [← e]
theorem pw_fi {x n : Nat} (h : n < 2 ^ 32) : fi (pw x n) = px (fi x) n := by
  unfold pw
  rw [pwr_fi _ _ _ _ h, fi_1]
  grobner
def iv_ok : Nat → Bool
  | 0 => true
  | n + 1 => ((n + 1) * iv (n + 1) % 10007 == 1) && iv_ok n
theorem iv_all : iv_ok 10006 = true := by decide +kernel
theorem iv_ok_at : ∀ n, iv_ok n = true → ∀ x, 0 < x → x ≤ n → x * iv x % 10007 = 1 := by
  intro n
  induction n with
  | zero => intro _ x h1 h2; omega
  | succ n ih =>
    intro h x h1 h2
    simp only [iv_ok, Bool.and_eq_true, beq_iff_eq] at h
    by_cases e : x = n + 1
    · rw [e]; exact h.1
    · exact ih h.2 x h1 (by omega)
def inv (x : Fp) : Fp := px x 10005
theorem iv_fi (x : Nat) : fi (iv x) = inv (fi x) := pw_fi (by decide)
theorem mul_inv {x : Fp} (h : x ≠ 0) : x * inv x = 1 := by
  obtain ⟨n, hn, rfl⟩ := fi_of x
  have h0 : 0 < n := by
    rcases Nat.eq_zero_or_pos n with e | e
    · subst e; exact absurd fi_0 h
    · exact e
  rw [← iv_fi, ← fi_mul, ← fi_mod, iv_ok_at 10006 iv_all n h0 (by omega)]
  rfl
theorem fp_zero {x y : Fp} (h : x * y = 0) (hx : x ≠ 0) : y = 0 := by
  have := mul_inv hx
  grobner
theorem fp_cancel {x y z : Fp} (h : x * y = x * z) (hx : x ≠ 0) : y = z := by
  have := mul_inv hx
  grobner
theorem fp_mul_ne {x y : Fp} (hx : x ≠ 0) (hy : y ≠ 0) : x * y ≠ 0 := fun h => hy (fp_zero h hx)
def ev (f : Nat → Fp) : Nat → Fp → Fp
  | 0, _ => 0
  | n + 1, x => f 0 + x * ev (fun i => f (i + 1)) n x
theorem ev_ext {f g : Nat → Fp} {n : Nat} (h : ∀ i, i < n → f i = g i) (x : Fp) : ev f n x = ev g n x := by
  induction n generalizing f g with
  | zero => rfl
  | succ n ih =>
    simp only [ev]
    rw [h 0 (by omega), ih (fun i hi => h (i + 1) (by omega))]
theorem ev_zero {f : Nat → Fp} {n : Nat} (h : ∀ i, i < n → f i = 0) (x : Fp) : ev f n x = 0 := by
  induction n generalizing f with
  | zero => rfl
  | succ n ih =>
    simp only [ev]
    rw [h 0 (by omega), ih (fun i hi => h (i + 1) (by omega))]
    grobner
theorem ev_more {f : Nat → Fp} {n : Nat} (m : Nat) (h : ∀ i, n ≤ i → f i = 0) (x : Fp) : ev f (n + m) x = ev f n x := by
  induction n generalizing f with
  | zero => rw [ev_zero (fun i _ => h i (by omega))]; rfl
  | succ n ih =>
    rw [show n + 1 + m = (n + m) + 1 by omega]
    simp only [ev]
    rw [ih (fun i hi => h (i + 1) (by omega))]
theorem ev_le {f : Nat → Fp} {n m : Nat} (hm : n ≤ m) (h : ∀ i, n ≤ i → f i = 0) (x : Fp) : ev f m x = ev f n x := by
  rw [show m = n + (m - n) by omega]
  exact ev_more _ h x
theorem ev_add (f g : Nat → Fp) (n : Nat) (x : Fp) : ev (fun i => f i + g i) n x = ev f n x + ev g n x := by
  induction n generalizing f g with
  | zero => simp only [ev]; grobner
  | succ n ih =>
    simp only [ev]
    rw [ih (fun i => f (i + 1)) (fun i => g (i + 1))]
    grobner
theorem ev_smul (c : Fp) (f : Nat → Fp) (n : Nat) (x : Fp) : ev (fun i => c * f i) n x = c * ev f n x := by
  induction n generalizing f with
  | zero => simp only [ev]; grobner
  | succ n ih =>
    simp only [ev]
    rw [ih (fun i => f (i + 1))]
    grobner
def mx (b : Fp) (f : Nat → Fp) : Nat → Fp := fun i => b * f i + (if i = 0 then 0 else f (i - 1))
theorem ev_sh (f : Nat → Fp) (n : Nat) (x : Fp) : ev (fun i => if i = 0 then 0 else f (i - 1)) (n + 1) x = x * ev f n x := by
  simp only [ev]
  rw [ev_ext (g := f) (fun i _ => by simp)]
  grobner
theorem ev_mx {b : Fp} {f : Nat → Fp} {n : Nat} (h : ∀ i, n ≤ i → f i = 0) (x : Fp) : ev (mx b f) (n + 1) x = (x + b) * ev f n x := by
  unfold mx
  rw [ev_add (fun i => b * f i) (fun i => if i = 0 then 0 else f (i - 1)), ev_smul, ev_sh, ev_le (by omega) h]
  grobner
def dv (r : Fp) (f : Nat → Fp) (n : Nat) : Nat → Fp := fun i => ev (fun j => f (i + 1 + j)) (n - (i + 1)) r
theorem dv_0 (r : Fp) (f : Nat → Fp) (n : Nat) : dv r f (n + 1) 0 = ev (fun j => f (j + 1)) n r := by
  show ev (fun j => f (0 + 1 + j)) (n + 1 - (0 + 1)) r = _
  rw [show n + 1 - (0 + 1) = n by omega]
  exact ev_ext (fun j _ => by rw [show 0 + 1 + j = j + 1 by omega]) r
theorem dv_s (r : Fp) (f : Nat → Fp) (n i : Nat) : dv r f (n + 1) (i + 1) = dv r (fun i => f (i + 1)) n i := by
  show ev (fun j => f (i + 1 + 1 + j)) (n + 1 - (i + 1 + 1)) r = ev (fun j => f (i + 1 + j + 1)) (n - (i + 1)) r
  rw [show n + 1 - (i + 1 + 1) = n - (i + 1) by omega]
  exact ev_ext (fun j _ => by rw [show i + 1 + 1 + j = i + 1 + j + 1 by omega]) r
theorem ev_dv1 (r : Fp) (n : Nat) : ∀ (f : Nat → Fp) (x : Fp), ev f (n + 1) x = (x - r) * ev (dv r f (n + 1)) n x + ev f (n + 1) r := by
  induction n with
  | zero =>
    intro f x
    show f 0 + x * 0 = (x - r) * 0 + (f 0 + r * 0)
    grobner
  | succ n ih =>
    intro f x
    have h1 := ih (fun i => f (i + 1)) x
    have h2 : ev (dv r f (n + 1 + 1)) (n + 1) x = ev (fun j => f (j + 1)) (n + 1) r + x * ev (dv r (fun i => f (i + 1)) (n + 1)) n x := by
      show dv r f (n + 1 + 1) 0 + x * ev (fun i => dv r f (n + 1 + 1) (i + 1)) n x = _
      rw [dv_0, ev_ext (g := dv r (fun i => f (i + 1)) (n + 1)) (fun i _ => dv_s r f (n + 1) i)]
    rw [h2]
    show f 0 + x * ev (fun i => f (i + 1)) (n + 1) x = (x - r) * (ev (fun i => f (i + 1)) (n + 1) r + x * ev (dv r (fun i => f (i + 1)) (n + 1)) n x) + (f 0 + r * ev (fun i => f (i + 1)) (n + 1) r)
    rw [h1]
    grobner
theorem ev_dv (r : Fp) (f : Nat → Fp) (n : Nat) (x : Fp) : ev f n x = (x - r) * ev (dv r f n) (n - 1) x + ev f n r := by
  cases n with
  | zero =>
    show (0 : Fp) = (x - r) * 0 + 0
    grobner
  | succ n => exact ev_dv1 r n f x
theorem roots {n : Nat} : ∀ {f : Nat → Fp} {a : Nat → Fp}, (∀ i j, i < n → j < n → a i = a j → i = j) → (∀ i, i < n → ev f n (a i) = 0) → ∀ i, i < n → f i = 0 := by
  induction n with
  | zero => intro f a _ _ i hi; omega
  | succ n ih =>
    intro f a hinj hz i hi
    have hq : ∀ i, i < n → dv (a n) f (n + 1) i = 0 := by
      refine ih (a := a) (fun i j h1 h2 h => hinj i j (by omega) (by omega) h) (fun i hi => ?_)
      have h1 := ev_dv (a n) f (n + 1) (a i)
      rw [hz i (by omega), hz n (by omega), Nat.add_sub_cancel] at h1
      have h2 : a i - a n ≠ 0 := by
        intro h
        have : a i = a n := by grobner
        have := hinj i n (by omega) (by omega) this
        omega
      refine fp_zero (x := a i - a n) ?_ h2
      grobner
    have hs : ∀ m i, i + m = n + 1 → ev (fun j => f (i + j)) m (a n) = 0 ∧ (0 < m → f i = 0) := by
      intro m
      induction m with
      | zero => intro i h; exact ⟨rfl, fun h => by omega⟩
      | succ m ihm =>
        intro i h
        have h1 := (ihm (i + 1) (by omega)).1
        have h2 : ev (fun j => f (i + j)) (m + 1) (a n) = 0 := by
          cases i with
          | zero =>
            have := hz n (by omega)
            rw [show m + 1 = n + 1 by omega, ← this]
            exact ev_ext (fun j _ => by rw [Nat.zero_add]) _
          | succ i =>
            have := hq i (by omega)
            unfold dv at this
            rw [show n + 1 - (i + 1) = m + 1 by omega] at this
            exact this
        refine ⟨h2, fun _ => ?_⟩
        simp only [ev] at h2
        rw [ev_ext (g := fun j => f (i + 1 + j)) (fun j _ => by rw [show i + (j + 1) = i + 1 + j by omega]), h1] at h2
        rw [Nat.add_zero] at h2
        grobner
    exact (hs (n + 1 - i) i (by omega)).2 (by omega)
theorem ev_inj {n : Nat} {f g : Nat → Fp} {a : Nat → Fp} (hinj : ∀ i j, i < n → j < n → a i = a j → i = j) (h : ∀ i, i < n → ev f n (a i) = ev g n (a i)) : ∀ i, i < n → f i = g i := by
  intro i hi
  have := roots (f := fun i => f i + (-1) * g i) hinj (fun i hi => by
    rw [ev_add f (fun i => (-1) * g i), ev_smul, h i hi]
    grobner) i hi
  grobner
def PF (n : Nat) (φ : Fp → Fp) : Prop := ∃ f : Nat → Fp, ∀ x, φ x = ev f n x
theorem PF.mono {n m : Nat} {φ : Fp → Fp} (h : PF n φ) (hm : n ≤ m) : PF m φ := by
  obtain ⟨f, hf⟩ := h
  refine ⟨fun i => if i < n then f i else 0, fun x => ?_⟩
  rw [ev_le hm (fun i hi => by rw [if_neg (by omega)]), hf]
  exact ev_ext (fun i hi => by rw [if_pos hi]) x
theorem PF.add {n : Nat} {φ ψ : Fp → Fp} (h : PF n φ) (h2 : PF n ψ) : PF n (fun x => φ x + ψ x) := by
  obtain ⟨f, hf⟩ := h
  obtain ⟨g, hg⟩ := h2
  exact ⟨fun i => f i + g i, fun x => by show φ x + ψ x = _; rw [ev_add, hf, hg]⟩
theorem PF.smul {n : Nat} {φ : Fp → Fp} (c : Fp) (h : PF n φ) : PF n (fun x => c * φ x) := by
  obtain ⟨f, hf⟩ := h
  exact ⟨fun i => c * f i, fun x => by show c * φ x = _; rw [ev_smul, hf]⟩
theorem PF.xmul {n : Nat} {φ : Fp → Fp} (h : PF n φ) : PF (n + 1) (fun x => x * φ x) := by
  obtain ⟨f, hf⟩ := h
  exact ⟨fun i => if i = 0 then 0 else f (i - 1), fun x => by show x * φ x = _; rw [ev_sh, hf]⟩
theorem PF.congr {n : Nat} {φ ψ : Fp → Fp} (h : PF n φ) (e : ∀ x, ψ x = φ x) : PF n ψ := by
  obtain ⟨f, hf⟩ := h
  exact ⟨f, fun x => by rw [e, hf]⟩
theorem PF.zero (n : Nat) : PF n (fun _ => 0) := ⟨fun _ => 0, fun x => (ev_zero (fun _ _ => rfl) x).symm⟩
theorem PF.const {n : Nat} (c : Fp) (h : 0 < n) : PF n (fun _ => c) := by
  refine PF.mono (n := 1) ⟨fun _ => c, fun x => ?_⟩ h
  simp only [ev]
  grobner
theorem PF.mul {n m : Nat} {φ ψ : Fp → Fp} (h : PF n φ) (h2 : PF m ψ) : PF (n + m) (fun x => φ x * ψ x) := by
  obtain ⟨f, hf⟩ := h
  induction n generalizing f φ with
  | zero => exact (PF.zero _).congr (fun x => by rw [hf]; simp only [ev]; grobner)
  | succ n ih =>
    have h3 := ih (φ := ev (fun i => f (i + 1)) n) (fun i => f (i + 1)) (fun x => rfl)
    refine (((h2.smul (f 0)).mono (m := n + 1 + m) (by omega)).add ((h3.xmul).mono (m := n + 1 + m) (by omega))).congr (fun x => ?_)
    rw [hf]
    simp only [ev]
    grobner
def npl (x : Fp) : Prop := ∀ b, b < 9 → x + fi b ≠ 0
theorem npl_pt {i : Nat} (h : i < 9000) : npl (fi (i + 1)) := by
  intro b hb
  rw [← fi_add]
  exact fi_ne (by omega) (by omega)
theorem pt_inj {i j : Nat} (hi : i < 9000) (hj : j < 9000) (h : fi (i + 1) = fi (j + 1)) : i = j := by
  have := fi_inj (by omega) (by omega) h
  omega
theorem PF.null {n : Nat} {φ : Fp → Fp} (h : PF n φ) (hn : n ≤ 9000) (hz : ∀ x, npl x → φ x = 0) (x : Fp) : φ x = 0 := by
  obtain ⟨f, hf⟩ := h
  rw [hf]
  refine ev_zero (roots (a := fun i => fi (i + 1)) (fun i j h1 h2 h => pt_inj (by omega) (by omega) h) (fun i hi => ?_)) x
  rw [← hf]
  exact hz _ (npl_pt (by omega))
theorem ev_eq {n : Nat} {f g : Nat → Fp} (hn : n ≤ 9000) (h : ∀ x, npl x → ev f n x = ev g n x) : ∀ i, i < n → f i = g i :=
  ev_inj (a := fun i => fi (i + 1)) (fun i j h1 h2 h => pt_inj (by omega) (by omega) h) (fun i hi => h _ (npl_pt (by omega)))
