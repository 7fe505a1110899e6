theorem nI_two {a b : Nat} {x : Int32} (ha : a < 100000) (hb : b < 100000) (h1 : x = nI a) (h2 : x = nI b) : a = b := (nI_eq (by omega) (by omega)).mp (h1.symm.trans h2)
theorem two_fn {P : Prop} {r r2 : Int32} (h : (r = nI 1 ∧ P) ∨ (r = nI 0 ∧ ¬ P)) (h2 : (r2 = nI 1 ∧ P) ∨ (r2 = nI 0 ∧ ¬ P)) : r = r2 := by
  rcases h with ⟨a, p⟩ | ⟨a, p⟩
  · rcases h2 with ⟨b, q⟩ | ⟨b, q⟩
    · exact a.trans b.symm
    · exact absurd p q
  · rcases h2 with ⟨b, q⟩ | ⟨b, q⟩
    · exact absurd q p
    · exact a.trans b.symm
theorem f_const {V V' V2 : Vt} {s c r r2 : Int32} (h : O_const V s c r V') (h2 : O_const V s c r2 V2) : r = r2 ∧ V' = V2 := by
  rcases h with ⟨n, f1, f2⟩ | ⟨k, x, hk, hx, ek, ex, h⟩
  · rcases h2 with ⟨n', g1, g2⟩ | ⟨k', x', hk', hx', ek', ex', h'⟩
    · exact ⟨f1.trans g1.symm, f2.trans g2.symm⟩
    · exact absurd (⟨⟨k', hk', ek'⟩, ⟨x', hx', ex'⟩⟩) n
  · rcases h2 with ⟨n', g1, g2⟩ | ⟨k', x', hk', hx', ek', ex', h'⟩
    · exact absurd (⟨⟨k, hk, ek⟩, ⟨x, hx, ex⟩⟩) n'
    · have qk := nI_two (by omega) (by omega) ek ek'
      subst qk
      have qx := nI_two (by omega) (by omega) ex ex'
      subst qx
      exact h.fn h'
theorem f_lin {V V' V2 : Vt} {s a b r r2 : Int32} (h : O_lin V s a b r V') (h2 : O_lin V s a b r2 V2) : r = r2 ∧ V' = V2 := by
  rcases h with ⟨n, f1, f2⟩ | ⟨k, x, y, hk, hx, hy, ek, ex, ey, h⟩
  · rcases h2 with ⟨n', g1, g2⟩ | ⟨k', x', y', hk', hx', hy', ek', ex', ey', h'⟩
    · exact ⟨f1.trans g1.symm, f2.trans g2.symm⟩
    · exact absurd (⟨⟨k', hk', ek'⟩, ⟨x', hx', ex'⟩, ⟨y', hy', ey'⟩⟩) n
  · rcases h2 with ⟨n', g1, g2⟩ | ⟨k', x', y', hk', hx', hy', ek', ex', ey', h'⟩
    · exact absurd (⟨⟨k, hk, ek⟩, ⟨x, hx, ex⟩, ⟨y, hy, ey⟩⟩) n'
    · have qk := nI_two (by omega) (by omega) ek ek'
      subst qk
      have qx := nI_two (by omega) (by omega) ex ex'
      subst qx
      have qy := nI_two (by omega) (by omega) ey ey'
      subst qy
      exact h.fn h'
theorem f_pow {V V' V2 : Vt} {s z r r2 : Int32} (h : O_pow V s z r V') (h2 : O_pow V s z r2 V2) : r = r2 ∧ V' = V2 := by
  rcases h with ⟨n, f1, f2⟩ | ⟨k, x, hk, hx0, hx, ek, ex, h⟩
  · rcases h2 with ⟨n', g1, g2⟩ | ⟨k', x', hk', hx0', hx', ek', ex', h'⟩
    · exact ⟨f1.trans g1.symm, f2.trans g2.symm⟩
    · exact absurd (⟨⟨k', hk', ek'⟩, ⟨x', hx', ex'⟩, fun z0 => by rw [ex'] at z0; have := (nI_eq (a := x') (b := 0) (by omega) (by omega)).mp z0; omega⟩) n
  · rcases h2 with ⟨n', g1, g2⟩ | ⟨k', x', hk', hx0', hx', ek', ex', h'⟩
    · exact absurd (⟨⟨k, hk, ek⟩, ⟨x, hx, ex⟩, fun z0 => by rw [ex] at z0; have := (nI_eq (a := x) (b := 0) (by omega) (by omega)).mp z0; omega⟩) n'
    · have qk := nI_two (by omega) (by omega) ek ek'
      subst qk
      have qx := nI_two (by omega) (by omega) ex ex'
      subst qx
      exact h.fn h'
theorem f_pole {V V' V2 : Vt} {s b e r r2 : Int32} (h : O_pole V s b e r V') (h2 : O_pole V s b e r2 V2) : r = r2 ∧ V' = V2 := by
  rcases h with ⟨n, f1, f2⟩ | ⟨k, x, y, hk, hx, hy1, hy3, ek, ex, ey, h⟩
  · rcases h2 with ⟨n', g1, g2⟩ | ⟨k', x', y', hk', hx', hy1', hy3', ek', ex', ey', h'⟩
    · exact ⟨f1.trans g1.symm, f2.trans g2.symm⟩
    · exact absurd (⟨⟨k', hk', ek'⟩, ⟨x', hx', ex'⟩, ⟨y', hy1', hy3', ey'⟩⟩) n
  · rcases h2 with ⟨n', g1, g2⟩ | ⟨k', x', y', hk', hx', hy1', hy3', ek', ex', ey', h'⟩
    · exact absurd (⟨⟨k, hk, ek⟩, ⟨x, hx, ex⟩, ⟨y, hy1, hy3, ey⟩⟩) n'
    · have qk := nI_two (by omega) (by omega) ek ek'
      subst qk
      have qx := nI_two (by omega) (by omega) ex ex'
      subst qx
      have qy := nI_two (by omega) (by omega) ey ey'
      subst qy
      exact h.fn h'
theorem f_add {V V' V2 : Vt} {d a b r r2 : Int32} (h : O_add V d a b r V') (h2 : O_add V d a b r2 V2) : r = r2 ∧ V' = V2 := by
  rcases h with ⟨n, f1, f2⟩ | ⟨k, x, y, hk, hx, hy, ek, ex, ey, h⟩
  · rcases h2 with ⟨n', g1, g2⟩ | ⟨k', x', y', hk', hx', hy', ek', ex', ey', h'⟩
    · exact ⟨f1.trans g1.symm, f2.trans g2.symm⟩
    · exact absurd (⟨⟨k', hk', ek'⟩, ⟨x', hx', ex'⟩, ⟨y', hy', ey'⟩⟩) n
  · rcases h2 with ⟨n', g1, g2⟩ | ⟨k', x', y', hk', hx', hy', ek', ex', ey', h'⟩
    · exact absurd (⟨⟨k, hk, ek⟩, ⟨x, hx, ex⟩, ⟨y, hy, ey⟩⟩) n'
    · have qk := nI_two (by omega) (by omega) ek ek'
      subst qk
      have qx := nI_two (by omega) (by omega) ex ex'
      subst qx
      have qy := nI_two (by omega) (by omega) ey ey'
      subst qy
      rcases h with ⟨c1, c2, c3, c4, c5⟩ | ⟨c1, c2⟩
      · rcases h' with ⟨d1, d2, d3, d4, d5⟩ | ⟨d1, d2⟩
        · exact ⟨c4.trans d4.symm, c5.trans d5.symm⟩
        · exact absurd ⟨c1, c2, c3⟩ d1
      · rcases h' with ⟨d1, d2, d3, d4, d5⟩ | ⟨d1, d2⟩
        · exact absurd ⟨d1, d2, d3⟩ c1
        · exact c2.fn d2
theorem f_mul {V V' V2 : Vt} {d a b r r2 : Int32} (h : O_mul V d a b r V') (h2 : O_mul V d a b r2 V2) : r = r2 ∧ V' = V2 := by
  rcases h with ⟨n, f1, f2⟩ | ⟨k, x, y, hk, hx, hy, ek, ex, ey, h⟩
  · rcases h2 with ⟨n', g1, g2⟩ | ⟨k', x', y', hk', hx', hy', ek', ex', ey', h'⟩
    · exact ⟨f1.trans g1.symm, f2.trans g2.symm⟩
    · exact absurd (⟨⟨k', hk', ek'⟩, ⟨x', hx', ex'⟩, ⟨y', hy', ey'⟩⟩) n
  · rcases h2 with ⟨n', g1, g2⟩ | ⟨k', x', y', hk', hx', hy', ek', ex', ey', h'⟩
    · exact absurd (⟨⟨k, hk, ek⟩, ⟨x, hx, ex⟩, ⟨y, hy, ey⟩⟩) n'
    · have qk := nI_two (by omega) (by omega) ek ek'
      subst qk
      have qx := nI_two (by omega) (by omega) ex ex'
      subst qx
      have qy := nI_two (by omega) (by omega) ey ey'
      subst qy
      exact h.fn h'
theorem f_shift {V V' V2 : Vt} {d a r r2 : Int32} (h : O_shift V d a r V') (h2 : O_shift V d a r2 V2) : r = r2 ∧ V' = V2 := by
  rcases h with ⟨n, f1, f2⟩ | ⟨k, x, hk, hx, ek, ex, h⟩
  · rcases h2 with ⟨n', g1, g2⟩ | ⟨k', x', hk', hx', ek', ex', h'⟩
    · exact ⟨f1.trans g1.symm, f2.trans g2.symm⟩
    · exact absurd (⟨⟨k', hk', ek'⟩, ⟨x', hx', ex'⟩⟩) n
  · rcases h2 with ⟨n', g1, g2⟩ | ⟨k', x', hk', hx', ek', ex', h'⟩
    · exact absurd (⟨⟨k, hk, ek⟩, ⟨x, hx, ex⟩⟩) n'
    · have qk := nI_two (by omega) (by omega) ek ek'
      subst qk
      have qx := nI_two (by omega) (by omega) ex ex'
      subst qx
      exact h.fn h'
theorem f_diff {V V' V2 : Vt} {d a r r2 : Int32} (h : O_diff V d a r V') (h2 : O_diff V d a r2 V2) : r = r2 ∧ V' = V2 := by
  rcases h with ⟨n, f1, f2⟩ | ⟨k, x, hk, hx, ek, ex, h⟩
  · rcases h2 with ⟨n', g1, g2⟩ | ⟨k', x', hk', hx', ek', ex', h'⟩
    · exact ⟨f1.trans g1.symm, f2.trans g2.symm⟩
    · exact absurd (⟨⟨k', hk', ek'⟩, ⟨x', hx', ex'⟩⟩) n
  · rcases h2 with ⟨n', g1, g2⟩ | ⟨k', x', hk', hx', ek', ex', h'⟩
    · exact absurd (⟨⟨k, hk, ek⟩, ⟨x, hx, ex⟩⟩) n'
    · have qk := nI_two (by omega) (by omega) ek ek'
      subst qk
      have qx := nI_two (by omega) (by omega) ex ex'
      subst qx
      exact h.fn h'
theorem f_chk {V : Vt} {d a r r2 : Int32} (h : O_chk V d a r) (h2 : O_chk V d a r2) : r = r2 := by
  rcases h with ⟨n, f1⟩ | ⟨k, x, hk, hx, ek, ex, h⟩
  · rcases h2 with ⟨n', g1⟩ | ⟨k', x', hk', hx', ek', ex', h'⟩
    · exact f1.trans g1.symm
    · exact absurd (⟨⟨k', hk', ek'⟩, ⟨x', hx', ex'⟩⟩) n
  · rcases h2 with ⟨n', g1⟩ | ⟨k', x', hk', hx', ek', ex', h'⟩
    · exact absurd (⟨⟨k, hk, ek⟩, ⟨x, hx, ex⟩⟩) n'
    · have qk := nI_two (by omega) (by omega) ek ek'
      subst qk
      have qx := nI_two (by omega) (by omega) ex ex'
      subst qx
      exact two_fn h h'
theorem f_same {V : Vt} {a b r r2 : Int32} (h : O_same V a b r) (h2 : O_same V a b r2) : r = r2 := by
  rcases h with ⟨n, f1⟩ | ⟨k, x, hk, hx, ek, ex, h⟩
  · rcases h2 with ⟨n', g1⟩ | ⟨k', x', hk', hx', ek', ex', h'⟩
    · exact f1.trans g1.symm
    · exact absurd (⟨⟨k', hk', ek'⟩, ⟨x', hx', ex'⟩⟩) n
  · rcases h2 with ⟨n', g1⟩ | ⟨k', x', hk', hx', ek', ex', h'⟩
    · exact absurd (⟨⟨k, hk, ek⟩, ⟨x, hx, ex⟩⟩) n'
    · have qk := nI_two (by omega) (by omega) ek ek'
      subst qk
      have qx := nI_two (by omega) (by omega) ex ex'
      subst qx
      exact two_fn h h'
theorem f_ratio {V : Vt} {s r r2 : Int32} (h : O_ratio V s r) (h2 : O_ratio V s r2) : r = r2 := by
  rcases h with ⟨n, f1⟩ | ⟨k, hk, ek, h⟩
  · rcases h2 with ⟨n', g1⟩ | ⟨k', hk', ek', h'⟩
    · exact f1.trans g1.symm
    · exact absurd (⟨k', hk', ek'⟩) n
  · rcases h2 with ⟨n', g1⟩ | ⟨k', hk', ek', h'⟩
    · exact absurd (⟨k, hk, ek⟩) n'
    · have qk := nI_two (by omega) (by omega) ek ek'
      subst qk
      exact h.trans h'.symm
theorem f_deg {V : Vt} {s r r2 : Int32} (h : O_deg V s r) (h2 : O_deg V s r2) : r = r2 := by
  rcases h with ⟨n, f1⟩ | ⟨k, hk, ek, h⟩
  · rcases h2 with ⟨n', g1⟩ | ⟨k', hk', ek', h'⟩
    · exact f1.trans g1.symm
    · exact absurd (⟨k', hk', ek'⟩) n
  · rcases h2 with ⟨n', g1⟩ | ⟨k', hk', ek', h'⟩
    · exact absurd (⟨k, hk, ek⟩) n'
    · have qk := nI_two (by omega) (by omega) ek ek'
      subst qk
      exact h.trans h'.symm
theorem f_coef {V : Vt} {s i r r2 : Int32} (h : O_coef V s i r) (h2 : O_coef V s i r2) : r = r2 := by
  rcases h with ⟨n, f1⟩ | ⟨k, x, hk, hx, ek, ex, h⟩
  · rcases h2 with ⟨n', g1⟩ | ⟨k', x', hk', hx', ek', ex', h'⟩
    · exact f1.trans g1.symm
    · exact absurd (⟨⟨k', hk', ek'⟩, ⟨x', hx', ex'⟩⟩) n
  · rcases h2 with ⟨n', g1⟩ | ⟨k', x', hk', hx', ek', ex', h'⟩
    · exact absurd (⟨⟨k, hk, ek⟩, ⟨x, hx, ex⟩⟩) n'
    · have qk := nI_two (by omega) (by omega) ek ek'
      subst qk
      have qx := nI_two (by omega) (by omega) ex ex'
      subst qx
      exact h.trans h'.symm
theorem f_exp {V : Vt} {s b r r2 : Int32} (h : O_exp V s b r) (h2 : O_exp V s b r2) : r = r2 := by
  rcases h with ⟨n, f1⟩ | ⟨k, x, hk, hx, ek, ex, h⟩
  · rcases h2 with ⟨n', g1⟩ | ⟨k', x', hk', hx', ek', ex', h'⟩
    · exact f1.trans g1.symm
    · exact absurd (⟨⟨k', hk', ek'⟩, ⟨x', hx', ex'⟩⟩) n
  · rcases h2 with ⟨n', g1⟩ | ⟨k', x', hk', hx', ek', ex', h'⟩
    · exact absurd (⟨⟨k, hk, ek⟩, ⟨x, hx, ex⟩⟩) n'
    · have qk := nI_two (by omega) (by omega) ek ek'
      subst qk
      have qx := nI_two (by omega) (by omega) ex ex'
      subst qx
      exact h.trans h'.symm
theorem f_wgt {V : Vt} {s b e r r2 : Int32} (h : O_wgt V s b e r) (h2 : O_wgt V s b e r2) : r = r2 := by
  rcases h with ⟨n, f1⟩ | ⟨k, x, y, hk, hx, hy1, hy3, ek, ex, ey, h⟩
  · rcases h2 with ⟨n', g1⟩ | ⟨k', x', y', hk', hx', hy1', hy3', ek', ex', ey', h'⟩
    · exact f1.trans g1.symm
    · exact absurd (⟨⟨k', hk', ek'⟩, ⟨x', hx', ex'⟩, ⟨y', hy1', hy3', ey'⟩⟩) n
  · rcases h2 with ⟨n', g1⟩ | ⟨k', x', y', hk', hx', hy1', hy3', ek', ex', ey', h'⟩
    · exact absurd (⟨⟨k, hk, ek⟩, ⟨x, hx, ex⟩, ⟨y, hy1, hy3, ey⟩⟩) n'
    · have qk := nI_two (by omega) (by omega) ek ek'
      subst qk
      have qx := nI_two (by omega) (by omega) ex ex'
      subst qx
      have qy := nI_two (by omega) (by omega) ey ey'
      subst qy
      exact h.trans h'.symm
theorem f_val {V : Vt} {s x r r2 : Int32} (h : O_val V s x r) (h2 : O_val V s x r2) : r = r2 := by
  rcases h with ⟨n, f1⟩ | ⟨k, hk, ek, hp, h⟩
  · rcases h2 with ⟨n', g1⟩ | ⟨k', hk', ek', hp', h'⟩
    · exact f1.trans g1.symm
    · exact absurd (⟨⟨k', hk', ek'⟩, hp'⟩) n
  · rcases h2 with ⟨n', g1⟩ | ⟨k', hk', ek', hp', h'⟩
    · exact absurd (⟨⟨k, hk, ek⟩, hp⟩) n'
    · have qk := nI_two (by omega) (by omega) ek ek'
      subst qk
      rcases h with ⟨c1, c2⟩ | ⟨c1, c2⟩
      · rcases h' with ⟨d1, d2⟩ | ⟨d1, d2⟩
        · exact c2.trans d2.symm
        · exact absurd c1 d1
      · rcases h' with ⟨d1, d2⟩ | ⟨d1, d2⟩
        · exact absurd d1 c1
        · exact c2.trans d2.symm
theorem f_sum {V : Vt} {s u v r r2 : Int32} (h : O_sum V s u v r) (h2 : O_sum V s u v r2) : r = r2 := by
  rcases h with ⟨n, f1⟩ | ⟨k, hk, ek, hp, hq, h⟩
  · rcases h2 with ⟨n', g1⟩ | ⟨k', hk', ek', hp', hq', h'⟩
    · exact f1.trans g1.symm
    · exact absurd (⟨⟨k', hk', ek'⟩, hp', hq'⟩) n
  · rcases h2 with ⟨n', g1⟩ | ⟨k', hk', ek', hp', hq', h'⟩
    · exact absurd (⟨⟨k, hk, ek⟩, hp, hq⟩) n'
    · have qk := nI_two (by omega) (by omega) ek ek'
      subst qk
      rcases h with ⟨c1, c2⟩ | ⟨c1, c2⟩
      · rcases h' with ⟨d1, d2⟩ | ⟨d1, d2⟩
        · exact c2.trans d2.symm
        · exact absurd c1 d1
      · rcases h' with ⟨d1, d2⟩ | ⟨d1, d2⟩
        · exact absurd d1 c1
        · exact c2.trans d2.symm
theorem f_tel {V V' V2 : Vt} {d p a r r2 : Int32} (h : O_tel V d p a r V') (h2 : O_tel V d p a r2 V2) : r = r2 ∧ V' = V2 := by
  rcases h with ⟨n, f1, f2⟩ | ⟨k, x, y, hk, hx, hy, hkx, ek, ex, ey, h⟩
  · rcases h2 with ⟨n', g1, g2⟩ | ⟨k', x', y', hk', hx', hy', hkx', ek', ex', ey', h'⟩
    · exact ⟨f1.trans g1.symm, f2.trans g2.symm⟩
    · exact absurd (⟨⟨k', hk', ek'⟩, ⟨x', hx', ex'⟩, ⟨y', hy', ey'⟩, fun z0 => hkx' (nI_two (by omega) (by omega) (z0 ▸ ek') ex')⟩) n
  · rcases h2 with ⟨n', g1, g2⟩ | ⟨k', x', y', hk', hx', hy', hkx', ek', ex', ey', h'⟩
    · exact absurd (⟨⟨k, hk, ek⟩, ⟨x, hx, ex⟩, ⟨y, hy, ey⟩, fun z0 => hkx (nI_two (by omega) (by omega) (z0 ▸ ek) ex)⟩) n'
    · have qk := nI_two (by omega) (by omega) ek ek'
      subst qk
      have qx := nI_two (by omega) (by omega) ex ex'
      subst qx
      have qy := nI_two (by omega) (by omega) ey ey'
      subst qy
      rcases h with ⟨c1, c2, c3⟩ | ⟨c1, c2, c3⟩
      · rcases h' with ⟨d1, d2, d3⟩ | ⟨d1, d2, d3⟩
        · exact ⟨c2.trans d2.symm, c3.trans d3.symm⟩
        · exact absurd c1 d1
      · rcases h' with ⟨d1, d2, d3⟩ | ⟨d1, d2, d3⟩
        · exact absurd d1 c1
        · refine ⟨?_, c3.trans d3.symm⟩
          rcases c2 with ⟨i1, i2⟩ | ⟨i1, i2⟩
          · rcases d2 with ⟨j1, j2⟩ | ⟨j1, j2⟩
            · exact i1.trans j1.symm
            · rw [i2] at j2; exact absurd j2 (Nat.lt_irrefl 0)
          · rcases d2 with ⟨j1, j2⟩ | ⟨j1, j2⟩
            · rw [j2] at i2; exact absurd i2 (Nat.lt_irrefl 0)
            · exact i1.trans j1.symm
