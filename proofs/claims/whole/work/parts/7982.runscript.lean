section RN
variable {T T' : Nat} {A B : AS} {s : ST} {r : gS}
theorem lcmp0 (x : Int64) : lg_cmp x 0 = 0 ↔ x = 0 := by
  have z : (0 : Int64).toInt = 0 := rfl
  constructor
  · intro h
    have h1 : ¬ x.toInt < 0 := fun q => by have := (ic_lcmp_lt x 0).mpr (by rw [z]; exact q); rw [h] at this; exact absurd this (by decide)
    have h2 : ¬ 0 < x.toInt := fun q => by have := (ic_lcmp_gt x 0).mpr (by rw [z]; exact q); rw [h] at this; exact absurd this (by decide)
    exact Int64.toInt_inj.mp (by rw [z]; omega)
  · intro h
    subst h
    rfl
theorem wlgL {k : Nat} (hk : k < 1000) : ∀ (m i f N : Nat), i + m = k → m < f → N < 9223372036854775808 → fX3_withoutLastGroups_L5 f () (nI k) (lN N) (nI i) = some (lN (N / 100000 ^ m), ()) := by
  intro m
  induction m with
  | zero =>
    intro i f N hi hf hN
    obtain ⟨f, rfl⟩ : ∃ z, f = z + 1 := ⟨f - 1, by omega⟩
    simp only [fX3_withoutLastGroups_L5]
    rw [if_pos ((le_nI (by omega) (by omega)).mpr (by omega)), Nat.pow_zero, Nat.div_one]
  | succ m ih =>
    intro i f N hi hf hN
    obtain ⟨f, rfl⟩ : ∃ z, f = z + 1 := ⟨f - 1, by omega⟩
    simp only [fX3_withoutLastGroups_L5]
    have e : lN N / (100000 : Int64) = lN (N / 100000) := pk_lDiv (b := 100000) hN (by decide) (by decide)
    rw [if_neg (fun z => by have := (le_nI (by omega) (by omega)).mp z; omega), gl_to e, nI_1, ih (i + 1) f (N / 100000) (by omega) (by omega) (Nat.lt_of_le_of_lt (Nat.div_le_self _ _) hN), Nat.div_div_eq_div_mul, Nat.pow_succ, Nat.mul_comm]
theorem wlg_s {k N : Nat} (hk : k < 1000) (hN : N < 9223372036854775808) : fX3_withoutLastGroups (lN N) (nI k) = some (lN (N / 100000 ^ k), ()) := wlgL hk k 0 gFuel N (by omega) (by have := fuel_ge; omega) hN
theorem tenL {k : Nat} (hk : k < 1000) : ∀ (m i f N : Nat), i + m = k → m < f → fX4_tenTo_L4 f () (nI k) (lN N) (nI i) = some (lN (N * 10 ^ m), ()) := by
  intro m
  induction m with
  | zero =>
    intro i f N hi hf
    obtain ⟨f, rfl⟩ : ∃ z, f = z + 1 := ⟨f - 1, by omega⟩
    simp only [fX4_tenTo_L4]
    rw [if_pos ((le_nI (by omega) (by omega)).mpr (by omega)), Nat.pow_zero, Nat.mul_one]
  | succ m ih =>
    intro i f N hi hf
    obtain ⟨f, rfl⟩ : ∃ z, f = z + 1 := ⟨f - 1, by omega⟩
    simp only [fX4_tenTo_L4]
    have e : lN N * (10 : Int64) = lN (N * 10) := lN_mul N 10
    rw [if_neg (fun z => by have := (le_nI (by omega) (by omega)).mp z; omega), gl_to e, nI_1, ih (i + 1) f (N * 10) (by omega) (by omega), Nat.mul_assoc, Nat.pow_succ, Nat.mul_comm 10]
theorem ten_s {k : Nat} (hk : k < 1000) : fX4_tenTo (nI k) = some (lN (10 ^ k), ()) := by
  have h := tenL hk k 0 gFuel 1 (by omega) (by have := fuel_ge; omega)
  rw [Nat.one_mul] at h
  exact h
/-- the commands one after the other, on both sides -/
theorem scrL {n N : Nat} (hn : n ≤ 3) (hN : N < 9223372036854775808) : ∀ (m i f g : Nat) (s : ST) (r : gS) (B : AS) (T : Nat), i + m = n → m < f → m < g → RA s.2.2.2.1 B → RB (r 4) B → Good T B → ∃ (v : Int32) (L : gS) (row : Nat → Int32), fX3_runScript_L51 f s (nI n) (lN N) (nI i) = some (.inr (v, (s.1, s.2.1, s.2.2.1, L, s.2.2.2.2))) ∧ fX4_runScript_L62 g r (nI n) (lN N) (nI i) = some (v, stf r 4 row) := by
  intro m
  induction m with
  | zero =>
    intro i f g s r B T hi hf hg hA hB hG
    obtain ⟨f, rfl⟩ : ∃ z, f = z + 1 := ⟨f - 1, by omega⟩
    obtain ⟨g, rfl⟩ : ∃ z, g = z + 1 := ⟨g - 1, by omega⟩
    simp only [fX3_runScript_L51, fX4_runScript_L62]
    have le : nI n ≤ nI i := (le_nI (by omega) (by omega)).mpr (by omega)
    rw [if_pos le, if_pos le]
    exact ⟨-9, s.2.2.2.1, r 4, rfl, by rw [sf_self]⟩
  | succ m ih =>
    intro i f g s r B T hi hf hg hA hB hG
    obtain ⟨f, rfl⟩ : ∃ z, f = z + 1 := ⟨f - 1, by omega⟩
    obtain ⟨g, rfl⟩ : ∃ z, g = z + 1 := ⟨g - 1, by omega⟩
    simp only [fX3_runScript_L51, fX4_runScript_L62]
    have le : ¬ nI n ≤ nI i := fun z => by have := (le_nI (by omega) (by omega)).mp z; omega
    have e1 : nI n - (1 : Int32) - nI i = nI m := by rw [li_1, sub_nI (by omega), sub_nI (by omega), show n - 1 - i = m by omega]
    have e2 : (5 : Int32) * nI m = nI (5 * m) := by rw [li_5, pk_mul]
    have p5 : (10 : Nat) ^ (5 * m) = 100000 ^ m := by rw [Nat.pow_mul]
    have pp : 0 < 100000 ^ m := Nat.pow_pos (by decide)
    have pm : (100000 : Nat) ^ m < 9223372036854775808 := by
      rcases (by omega : m = 0 ∨ m = 1 ∨ m = 2) with rfl | rfl | rfl <;> decide
    rw [if_neg le, if_neg le, e1, e2, wlg_s (by omega) hN, ten_s (by omega), Option.bind_some, Option.bind_some, p5]
    have nz0 : ¬ lN (100000 ^ m) = 0 := fun z => by have := (pk_lEQ (b := 0) pm (by decide)).mp z; omega
    rw [gd_t nz0]
    have hq : N / 100000 ^ m < 9223372036854775808 := Nat.lt_of_le_of_lt (Nat.div_le_self _ _) hN
    have ed : lN N / lN (100000 ^ m) = lN (N / 100000 ^ m) := pk_lDiv hN pp pm
    simp only []
    rw [ed]
    have er : lN (N / 100000 ^ m) - lN (N / 100000 ^ m) / (100000 : Int64) * (100000 : Int64) = lN (N / 100000 ^ m % 100000) := pk_lRem (b := 100000) hq (by decide) (by decide)
    rw [gl_to er, gl_to er, gl_to (lN_i _), gl_to (lN_i _)]
    obtain ⟨c, L, row, B', h1, h2, h3, h4, h5⟩ := does_pr hA hB hG (Nat.mod_lt (N / 100000 ^ m) (show 0 < 100000 by decide))
    rw [h1, h2, Option.bind_some, Option.bind_some]
    cases c with
    | false =>
      rw [if_pos bI_f, if_pos bI_f]
      exact ⟨_, L, row, rfl, rfl⟩
    | true =>
      rw [if_neg (show ¬ bI true = 0 by decide), if_neg (show ¬ bI true = 0 by decide), nI_1]
      obtain ⟨v, L', row', j1, j2⟩ := ih (i + 1) f g (s.1, s.2.1, s.2.2.1, L, s.2.2.2.2) (stf r 4 row) B' (T + 150) (by omega) (by omega) (by omega) h3 (by rw [sf_eq]; exact h4) h5
      refine ⟨v, L', row', j1, j2.trans ?_⟩
      rw [show stf (stf r 4 row) 4 row' = stf r 4 row' from funext fun k => by
        by_cases e : k = 4
        · subst e; rw [sf_eq, sf_eq]
        · rw [sf_ne e, sf_ne e, sf_ne e]]
theorem runScript_step (h : TopA T s r A) (p : Int32) (q : Int64) : Step T cdI (fX3_runScript s p q) (fX4_runScript r p q) := by
  have no : fX4_runScript_L47 r p q 1 = some (0, st2 r 0 0 1) := rfl
  obtain ⟨hG, hA, hB, -⟩ := id h
  have l1 : p < 1 ↔ p.toInt < 1 := lt_int p (n := 1) (by decide)
  have l3 : (3 : Int32) < p ↔ 3 < p.toInt := by
    have : (4 : Int32) ≤ p ↔ 4 ≤ p.toInt := le_int p (n := 4) (by decide)
    rw [Int32.lt_iff_toInt_lt]; exact Iff.rfl
  unfold fX4_runScript
  rw [inI_spec p 1 3 1 3 (by decide) (by decide), Option.bind_some]
  by_cases hp : 1 ≤ p.toInt ∧ p.toInt ≤ 3
  · rw [decide_eq_true hp, if_neg (show ¬ bI true = 0 by decide), if_neg (show ¬ bI true = 0 by decide)]
    obtain ⟨n, hn, en⟩ := in_nI (p := p) (n := 4) (by omega)
    subst en
    have hti : (nI n).toInt = (n : Int) := Int32.toInt_ofNat_of_lt (by omega)
    rw [hti] at hp l1 l3
    have e5 : (5 : Int32) * nI n = nI (5 * n) := by rw [li_5, pk_mul]
    have p5 : (10 : Nat) ^ (5 * n) = 100000 ^ n := by rw [Nat.pow_mul]
    have pm : (100000 : Nat) ^ n < 9223372036854775808 := by
      rcases (by omega : n = 1 ∨ n = 2 ∨ n = 3) with rfl | rfl | rfl <;> decide
    have pp : 0 < 100000 ^ n := Nat.pow_pos (by decide)
    unfold fX3_runScript fX4_runScript_L31
    rw [if_neg (fun z => by have := l1.mp z; omega), if_neg (fun z => by have := l3.mp z; omega), e5, ten_s (by omega), Option.bind_some, in_spec, Option.bind_some]
    have e1 : lN (10 ^ (5 * n)) - (1 : Int64) = lN (100000 ^ n - 1) := by rw [p5]; exact lN_sub (b := 1) (by omega)
    have z0 : (0 : Int64).toInt = 0 := rfl
    simp only [e1]
    rw [z0, pk_lT (by omega)]
    have lc : lg_cmp q 0 < 0 ↔ q.toInt < 0 := by rw [ic_lcmp_lt, z0]
    by_cases hq : q.toInt < 0
    · rw [if_pos (lc.mpr hq), decide_eq_false (by omega), if_pos bI_f]
      exact Step_no h (n := 1) rfl rfl (by decide) no
    · obtain ⟨N, hN, eN⟩ := pk_lOf (x := q) (fun z => hq (by have := Int64.lt_iff_toInt_lt.mp z; rw [z0] at this; exact this))
      subst eN
      have hNi : (lN N).toInt = (N : Int) := pk_lT hN
      rw [if_neg (fun z => hq (lc.mp z)), wlg_s (by omega) hN, Option.bind_some, hNi]
      have ez : lg_cmp (lN (N / 100000 ^ n)) 0 = 0 ↔ N < 100000 ^ n := by
        rw [lcmp0]
        have := pk_lEQ (a := N / 100000 ^ n) (b := 0) (Nat.lt_of_le_of_lt (Nat.div_le_self _ _) hN) (by decide)
        refine (show lN (N / 100000 ^ n) = 0 ↔ N / 100000 ^ n = 0 from this).trans ?_
        rw [Nat.div_eq_zero_iff]
        omega
      by_cases c : N < 100000 ^ n
      · rw [if_pos (ez.mpr c), decide_eq_true (by omega), if_neg (show ¬ bI true = 0 by decide)]
        obtain ⟨t, a1, a2, -⟩ := copy_s s.2.2.2.1 hA (qlen_of hG.1)
        rw [a1, Option.bind_some]
        simp only [gl]
        unfold fX4_runScript_L47
        rw [refused_0, Option.bind_some, if_pos rfl]
        obtain ⟨r1, c1, c2, c3⟩ := tryIt_s (r := st2 r 0 0 0) (A := A) (by rw [row0]; exact hB) hG.1
        rw [c1, Option.bind_some]
        obtain ⟨v, L, row, j1, j2⟩ := scrL (n := n) (N := N) (by omega) hN n 0 gFuel gFuel (s.1, s.2.1, s.2.2.1, t, s.2.2.2.2) r1 A T (by omega) (by have := fuel_ge; omega) (by have := fuel_ge; omega) a2 c3 hG
        have f : ∀ k, k ≠ 4 → (stf r1 4 row) k = (st2 r 0 0 0) k := fun k hk => (sf_ne hk).trans (c2 k hk)
        refine ⟨(s.1, s.2.1, s.2.2.1, L, s.2.2.2.2), v, stf r1 4 row, j2, ⟨A, TopA_upd (s' := (s.1, s.2.1, s.2.2.1, L, s.2.2.2.2)) h (Nat.le_refl _) rfl rfl rfl hA (by rw [f 3 (by decide), row0]; exact hB) hG (fun k j x y z => by rw [f k y, st_ne (by omega)])⟩, Or.inr ⟨j1, ?_⟩⟩
        rw [f 0 (by decide)]; rfl
      · rw [if_neg (fun z => c (ez.mp z)), decide_eq_false (by omega), if_pos bI_f]
        exact Step_no h (n := 1) rfl rfl (by decide) no
  · rw [decide_eq_false hp, if_pos bI_f]
    have hx : fX3_runScript s p q = some (.inl (1, s)) := by
      unfold fX3_runScript
      by_cases c : p.toInt < 1
      · rw [if_pos (l1.mpr c)]
      · rw [if_neg (fun z => c (l1.mp z)), if_pos (l3.mpr (by omega))]
    exact Step_no h (n := 1) hx rfl (by decide) no
end RN
