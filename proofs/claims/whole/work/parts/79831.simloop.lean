section SU2
variable {T T' : Nat} {A B : AS} {s : ST} {r : gS}
theorem simL {L0 : gS} {N0 : Nat → Int32} (a1 : RA L0 A) (b1 : RB N0 A) {n : Nat} (hn : n ≤ 99) : ∀ (m i f g : Nat) (s : ST) (r : gS) (B : AS) (T : Nat) (v4 : Int32) (x : Int64), i + m = n → m < f → m < g → s.2.2.1 = L0 → r 3 = N0 → RA s.2.2.2.1 B → RB (r 4) B → Good T B → v4 = aShouts B - aShouts A → ∃ (v : Int32) (L : gS) (row : Nat → Int32), fX3_simulate_L42 f s (nI n) v4 x (nI i) = some (.inr (v, (s.1, s.2.1, s.2.2.1, L, s.2.2.2.2))) ∧ fX4_simulate_L36 g r (nI n) x (nI i) = some (v, stf r 4 row) := by
  intro m
  induction m with
  | zero =>
    intro i f g s r B T v4 x hi hf hg es er hA hB hG h4
    obtain ⟨f, rfl⟩ : ∃ z, f = z + 1 := ⟨f - 1, by omega⟩
    obtain ⟨g, rfl⟩ : ∃ z, g = z + 1 := ⟨g - 1, by omega⟩
    simp only [fX3_simulate_L42, fX4_simulate_L36]
    have le : nI n ≤ nI i := (le_nI (by omega) (by omega)).mpr (by omega)
    rw [if_pos le, if_pos le]
    simp only [gl]
    refine ⟨_, s.2.2.2.1, r 4, rfl, ?_⟩
    rw [sf_self, er, cl_199, cl_200, cl_201, hB.sh, b1.sh, hB.2.2.2.2.1.2.2.2.1, b1.2.2.2.2.1.2.2.2.1, hB.2.2.2.2.1.2.2.2.2, b1.2.2.2.2.1.2.2.2.2, es, hA.2.2.2.2.2.2.2.1.2.2.2.1, a1.2.2.2.2.2.2.2.1.2.2.2.1, hA.2.2.2.2.2.2.2.1.2.2.2.2, a1.2.2.2.2.2.2.2.1.2.2.2.2, h4, tel2]
  | succ m ih =>
    intro i f g s r B T v4 x hi hf hg es er hA hB hG h4
    obtain ⟨f, rfl⟩ : ∃ z, f = z + 1 := ⟨f - 1, by omega⟩
    obtain ⟨g, rfl⟩ : ∃ z, g = z + 1 := ⟨g - 1, by omega⟩
    simp only [fX3_simulate_L42, fX4_simulate_L36]
    have le : ¬ nI n ≤ nI i := fun z => by have := (le_nI (by omega) (by omega)).mp z; omega
    rw [if_neg le, if_neg le]
    obtain ⟨x', ex⟩ : ∃ y : Int64, (x * (6364136223846793005 : Int64)) + (1442695040888963407 : Int64) = y := ⟨_, rfl⟩
    rw [gl_to ex, gl_to ex]
    obtain ⟨R, hR, eR⟩ := lcg31 x'
    rw [gl_to eR, gl_to eR]
    obtain ⟨L, row, B', h1, h2, h3, h5, h6, h7⟩ := stir_pr (s := s) (r := r) hA hB hG hR
    rw [h1, h2, Option.bind_some, Option.bind_some]
    obtain ⟨L', q1, ⟨q2, q3⟩, ⟨q4, q5⟩, -⟩ := passTicks_s h3 h6.1 h6.2 (n := 1) (by decide)
    have q1' : fX1_passTicks L 1 = some L' := q1
    have one : aTicks 1 B' = aTick B' := rfl
    rw [one] at q2 q3 q4 q5
    obtain ⟨row2, w1, w2, w3⟩ := tick_spec h5 h6.1
    simp only [sf_eq]
    rw [q1', w1, Option.bind_some, Option.bind_some]
    simp only [gl, nI_1]
    have eS : aShouts B' = aShouts B := by unfold aShouts; rw [h7, h7, h7]
    obtain ⟨v, L3, row3, j1, j2⟩ := ih (i + 1) f g (s.1, s.2.1, s.2.2.1, L'.2, s.2.2.2.2) (stf (stf r 4 row) 4 row2) (aTick B') (T + 3) (v4 + L'.1) x' (by omega) (by omega) (by omega) es (by rw [sf_ne (by decide), sf_ne (by decide)]; exact er) q3 (by rw [sf_eq]; exact w2) ⟨q4, q5⟩ (by rw [h4, q2, eS, tel])
    refine ⟨v, L3, row3, j1, j2.trans ?_⟩
    rw [show stf (stf (stf r 4 row) 4 row2) 4 row3 = stf r 4 row3 from funext fun k => by
      by_cases e : k = 4
      · subst e; rw [sf_eq, sf_eq]
      · rw [sf_ne e, sf_ne e, sf_ne e, sf_ne e]]
theorem simulate_step (h : TopA T s r A) (q : Int64) (p : Int32) : Step T cdI (fX3_simulate s q p) (fX4_simulate r q p) := by
  have no : fX4_simulate_L18 r q p 1 = some (0, st2 r 0 0 1) := rfl
  obtain ⟨hG, hA, hB, -⟩ := id h
  have l1 : p < 1 ↔ p.toInt < 1 := lt_int p (n := 1) (by decide)
  have l9 : p ≤ (99 : Int32) ↔ p.toInt ≤ 99 := by rw [Int32.le_iff_toInt_le]; exact Iff.rfl
  unfold fX4_simulate fX3_simulate
  rw [inI_spec p 1 99 1 99 (by decide) (by decide), Option.bind_some]
  by_cases hp : 1 ≤ p.toInt ∧ p.toInt ≤ 99
  · rw [decide_eq_true hp, if_neg (show ¬ bI true = 0 by decide), if_neg (fun z => by have := l1.mp z; omega), if_pos (l9.mpr hp.2)]
    obtain ⟨n, hn, en⟩ := in_nI (p := p) (n := 100) (by omega)
    subst en
    obtain ⟨t, a1, a2, -⟩ := copy_s s.2.2.2.1 hA (qlen_of hG.1)
    rw [a1, Option.bind_some]
    simp only [gl]
    unfold fX4_simulate_L18
    rw [refused_0, Option.bind_some, if_pos rfl]
    obtain ⟨r1, c1, c2, c3⟩ := tryIt_s (r := st2 r 0 0 0) (A := A) (by rw [row0]; exact hB) hG.1
    rw [c1, Option.bind_some]
    obtain ⟨v, L, row, j1, j2⟩ := simL (L0 := s.2.2.1) (N0 := r1 3) hA (by rw [c2 3 (by decide), row0]; exact hB) (n := n) (by omega) n 0 gFuel gFuel (s.1, s.2.1, s.2.2.1, t, s.2.2.2.2) r1 A T 0 q (by omega) (by have := fuel_ge; omega) (by have := fuel_ge; omega) rfl rfl a2 c3 hG (Int32.sub_self _).symm
    have f : ∀ k, k ≠ 4 → (stf r1 4 row) k = (st2 r 0 0 0) k := fun k hk => (sf_ne hk).trans (c2 k hk)
    refine ⟨(s.1, s.2.1, s.2.2.1, L, s.2.2.2.2), v, stf r1 4 row, j2, ⟨A, TopA_upd (s' := (s.1, s.2.1, s.2.2.1, L, s.2.2.2.2)) h (Nat.le_refl _) rfl rfl rfl hA (by rw [f 3 (by decide), row0]; exact hB) hG (fun k j x y z => by rw [f k y, st_ne (by omega)])⟩, Or.inr ⟨j1, ?_⟩⟩
    rw [f 0 (by decide)]; rfl
  · rw [decide_eq_false hp, if_pos bI_f]
    by_cases c : p.toInt < 1
    · rw [if_pos (l1.mpr c)]
      exact Step_no h (n := 1) rfl rfl (by decide) no
    · rw [if_neg (fun z => c (l1.mp z)), if_neg (fun z => by have := l9.mp z; omega)]
      exact Step_no h (n := 1) rfl rfl (by decide) no
end SU2
