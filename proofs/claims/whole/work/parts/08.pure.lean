def tp (f : Nat → Nat) : Nat → Nat
  | 0 => 0
  | n + 1 => if f n = 0 then tp f n else n + 1
theorem tp_le (f : Nat → Nat) (n : Nat) : tp f n ≤ n := by
  induction n with
  | zero => exact Nat.le_refl _
  | succ n ih => unfold tp; split <;> omega
theorem tp_z {f : Nat → Nat} {n i : Nat} (h1 : tp f n ≤ i) (h2 : i < n) : f i = 0 := by
  induction n with
  | zero => omega
  | succ n ih =>
    unfold tp at h1
    split at h1
    · by_cases e : i = n
      · subst e; assumption
      · exact ih h1 (by omega)
    · omega
theorem tp_nz {f : Nat → Nat} {n : Nat} (h : 0 < tp f n) : f (tp f n - 1) ≠ 0 := by
  induction n with
  | zero => exact absurd h (Nat.lt_irrefl 0)
  | succ n ih =>
    unfold tp at h ⊢
    split
    · next e => rw [if_pos e] at h; exact ih h
    · exact fun z => by simp at z; contradiction
theorem tp_ext {f g : Nat → Nat} {n : Nat} (h : ∀ i, i < n → f i = g i) : tp f n = tp g n := by
  induction n with
  | zero => rfl
  | succ n ih =>
    unfold tp
    rw [h n (by omega), ih (fun i hi => h i (by omega))]
theorem tp_eq {f : Nat → Nat} {n t : Nat} (ht : t ≤ n) (hz : ∀ i, t ≤ i → i < n → f i = 0) (hn : 0 < t → f (t - 1) ≠ 0) : tp f n = t := by
  rcases Nat.lt_trichotomy (tp f n) t with h | h | h
  · exact absurd (tp_z (f := f) (n := n) (i := t - 1) (by omega) (by omega)) (hn (by omega))
  · exact h
  · have := tp_le f n
    exact absurd (hz (tp f n - 1) (by omega) (by omega)) (tp_nz (by omega))
theorem tp_more {f : Nat → Nat} {n : Nat} (m : Nat) (hz : ∀ i, n ≤ i → f i = 0) : tp f (n + m) = tp f n :=
  tp_eq (by have := tp_le f n; omega) (fun i h1 h2 => by
    by_cases h : i < n
    · exact tp_z h1 h
    · exact hz i (by omega)) (fun h => tp_nz h)
def okP (n : Nat) (f : Nat → Nat) : Prop := (∀ i, f i < 10007) ∧ ∀ i, n ≤ i → f i = 0
theorem okP.mono {n m : Nat} {f : Nat → Nat} (h : okP n f) (hm : n ≤ m) : okP m f := ⟨h.1, fun i hi => h.2 i (by omega)⟩
theorem okP.tz {n : Nat} {f : Nat → Nat} (h : okP n f) {i : Nat} (hi : tp f n ≤ i) : f i = 0 := by
  by_cases h1 : i < n
  · exact tp_z hi h1
  · exact h.2 i (by omega)
def cut (n : Nat) (f : Nat → Nat) : Nat → Nat := fun i => if i < n then f i else 0
theorem cut_id {n : Nat} {f : Nat → Nat} (h : ∀ i, n ≤ i → f i = 0) : cut n f = f := by
  funext i
  unfold cut
  split
  · rfl
  · rw [h i (by omega)]
theorem tp_cut (f : Nat → Nat) (n : Nat) : tp (cut n f) n = tp f n := tp_ext (fun i hi => by simp [cut, hi])
def hn (f : Nat → Nat) (x : Nat) : Nat → Nat → Nat
  | 0, _ => 0
  | m + 1, i => (hn f x m (i + 1) * x + f i) % 10007
theorem hn_lt (f : Nat → Nat) (x m i : Nat) : hn f x m i < 10007 := by
  cases m with
  | zero => exact (by decide : 0 < 10007)
  | succ m => exact Nat.mod_lt _ (by decide)
theorem hn_ext {f g : Nat → Nat} {x m i : Nat} (h : ∀ j, i ≤ j → j < i + m → f j = g j) : hn f x m i = hn g x m i := by
  induction m generalizing i with
  | zero => rfl
  | succ m ih =>
    unfold hn
    rw [ih (fun j h1 h2 => h j (by omega) (by omega)), h i (by omega) (by omega)]
theorem hn_0 {f : Nat → Nat} {x m i : Nat} (h : ∀ j, i ≤ j → f j = 0) : hn f x m i = 0 := by
  induction m generalizing i with
  | zero => rfl
  | succ m ih =>
    unfold hn
    rw [ih (fun j h1 => h j (by omega)), h i (by omega)]
    simp
theorem hn_more {f : Nat → Nat} {x m k i : Nat} (h : ∀ j, i + m ≤ j → f j = 0) : hn f x (m + k) i = hn f x m i := by
  induction m generalizing i with
  | zero => rw [Nat.zero_add]; exact hn_0 (fun j hj => h j (by omega))
  | succ m ih =>
    rw [show m + 1 + k = (m + k) + 1 by omega]
    unfold hn
    rw [ih (fun j hj => h j (by omega))]
theorem hn_le {f : Nat → Nat} {x m k i : Nat} (hk : m ≤ k) (h : ∀ j, i + m ≤ j → f j = 0) : hn f x k i = hn f x m i := by
  rw [show k = m + (k - m) by omega]
  exact hn_more h
theorem hn_fi (f : Nat → Nat) (x m i : Nat) : fi (hn f x m i) = ev (fun j => fi (f (i + j))) m (fi x) := by
  induction m generalizing i with
  | zero => rfl
  | succ m ih =>
    unfold hn
    rw [fi_mod, fi_add, fi_mul, ih]
    simp only [ev, Nat.add_zero]
    rw [ev_ext (f := fun j => fi (f (i + (j + 1)))) (g := fun j => fi (f (i + 1 + j))) (fun j _ => by rw [show i + (j + 1) = i + 1 + j by omega])]
    grobner
def pv (f : Nat → Nat) (n : Nat) (x : Fp) : Fp := ev (fun j => fi (f j)) n x
theorem hn_pv (f : Nat → Nat) (x n : Nat) : fi (hn f x n 0) = pv f n (fi x) := by
  rw [hn_fi]
  exact ev_ext (fun j _ => by rw [Nat.zero_add]) _
theorem pv_le {f : Nat → Nat} {n m : Nat} (hm : n ≤ m) (h : ∀ i, n ≤ i → f i = 0) (x : Fp) : pv f m x = pv f n x :=
  ev_le hm (fun i hi => by rw [h i hi]; rfl) x
theorem pv_eq {f g : Nat → Nat} {n : Nat} (hn : n ≤ 9000) (hf : okP n f) (hg : okP n g) (h : ∀ x, npl x → pv f n x = pv g n x) : f = g := by
  funext i
  by_cases hi : i < n
  · exact fi_inj (hf.1 i) (hg.1 i) (ev_eq hn h i hi)
  · rw [hf.2 i (by omega), hg.2 i (by omega)]
def mt (n b : Nat) (f : Nat → Nat) : Nat → Nat := fun i => if i < n then (f i * b + (if i = 0 then 0 else f (i - 1))) % 10007 else 0
def mtN (n b : Nat) : Nat → (Nat → Nat) → Nat → Nat
  | 0, f => f
  | t + 1, f => mtN n b t (mt n b f)
theorem mt_ok (n b : Nat) (f : Nat → Nat) : okP n (mt n b f) := by
  refine ⟨fun i => ?_, fun i hi => ?_⟩
  · unfold mt
    split
    · exact Nat.mod_lt _ (by decide)
    · decide
  · unfold mt
    rw [if_neg (by omega)]
theorem mtN_ok {n b t : Nat} {f : Nat → Nat} (h : okP n f) : okP n (mtN n b t f) := by
  induction t generalizing f with
  | zero => exact h
  | succ t ih => exact ih (mt_ok n b f)
def dq (n r : Nat) (f : Nat → Nat) : Nat → Nat := fun i => hn f r (n - (i + 1)) (i + 1)
theorem dq_ok (n r : Nat) (f : Nat → Nat) : okP n (dq n r f) := by
  refine ⟨fun i => hn_lt _ _ _ _, fun i hi => ?_⟩
  unfold dq
  rw [show n - (i + 1) = 0 by omega]
  rfl
def lin (a b : Nat) : Nat → Nat := fun i => if i = 0 then b else if i = 1 then a else 0
theorem lin_ok {n a b : Nat} (ha : a < 10007) (hb : b < 10007) (hn : 2 ≤ n) : okP n (lin a b) := by
  refine ⟨fun i => ?_, fun i hi => ?_⟩
  · unfold lin
    split
    · exact hb
    · split
      · exact ha
      · decide
  · unfold lin
    rw [if_neg (by omega), if_neg (by omega)]
theorem pv_mt {n m b : Nat} {f : Nat → Nat} (hm : m + 1 ≤ n) (h : ∀ i, m ≤ i → f i = 0) (x : Fp) : pv (mt n b f) n x = (x + fi b) * pv f n x := by
  rw [pv_le (m := n) (n := m) (by omega) h]
  unfold pv
  rw [← ev_mx (b := fi b) (f := fun j => fi (f j)) (n := m) (fun i hi => by rw [h i hi]; rfl)]
  have e : ∀ i, i < n → fi (mt n b f i) = mx (fi b) (fun j => fi (f j)) i := by
    intro i hi
    unfold mt mx
    rw [if_pos hi, fi_mod, fi_add, fi_mul]
    by_cases h0 : i = 0
    · rw [if_pos h0, if_pos h0, fi_0]
      grobner
    · rw [if_neg h0, if_neg h0]
      grobner
  rw [ev_ext e, ev_le (n := m + 1) hm (fun i hi => by
    show fi b * fi (f i) + (if i = 0 then 0 else fi (f (i - 1))) = 0
    rw [h i (by omega), if_neg (by omega), h (i - 1) (by omega), fi_0]
    grobner)]
theorem pv_dq (n r : Nat) (f : Nat → Nat) (h : ∀ i, n ≤ i → f i = 0) (x : Fp) : pv f n x = (x - fi r) * pv (dq n r f) n x + pv f n (fi r) := by
  unfold pv
  rw [ev_dv (fi r) (fun j => fi (f j)) n x]
  have e : ∀ i, fi (dq n r f i) = dv (fi r) (fun j => fi (f j)) n i := by
    intro i
    unfold dq dv
    rw [hn_fi]
  rw [ev_ext (f := fun j => fi (dq n r f j)) (g := dv (fi r) (fun j => fi (f j)) n) (fun i _ => e i)]
  cases n with
  | zero => rfl
  | succ n =>
    rw [Nat.add_sub_cancel, ev_le (f := dv (fi r) (fun j => fi (f j)) (n + 1)) (n := n) (m := n + 1) (by omega) (fun i hi => by
      unfold dv
      rw [show n + 1 - (i + 1) = 0 by omega]
      rfl)]
