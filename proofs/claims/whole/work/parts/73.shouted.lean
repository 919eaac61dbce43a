section SH
variable {T T' : Nat} {A A' : AS} {s s' : ST} {r r' : gS}
theorem speak4 (A : AS) (g b : Nat) : (aSpeak A g).1 4 b = A.1 4 b ∨ (aSpeak A g).1 4 b = A.1 4 b + 1 := by
  unfold aSpeak
  split
  · split
    · exact Or.inl rfl
    · rename_i b0 r0 _
      have e : (aCry A g b0 r0).1 4 b = st2 (st2 A.1 11 g (A.1 11 g + 1)) 4 b0 (A.1 4 b0 + 1) 4 b := by
        show st2 (st2 (st2 A.1 11 g (A.1 11 g + 1)) 4 b0 (A.1 4 b0 + 1)) 10 g (A.1 12 1) 4 b = _
        exact st_ne (Or.inl (by decide))
      rw [e]
      by_cases q : b = b0
      · subst q; rw [st_eq rfl rfl]; exact Or.inr rfl
      · rw [st_ne (Or.inr q), st_ne (Or.inl (by decide))]; exact Or.inl rfl
  · exact Or.inl (by rw [aS_1, st_ne (Or.inl (by decide))])
theorem cry_up {b : Nat} : ∀ (m g : Nat) (A : AS) (c : Nat), A.1 4 b = nI c → ∃ c', c ≤ c' ∧ c' ≤ c + m ∧ (fr aSpeak m g A).1 4 b = nI c' := by
  intro m
  induction m with
  | zero => intro g A c h; exact ⟨c, Nat.le_refl _, by omega, h⟩
  | succ m ih =>
    intro g A c h
    rw [fr_succ]
    rcases speak4 A g b with e | e
    · obtain ⟨c', x, y, z⟩ := ih (g + 1) (aSpeak A g) c (e.trans h)
      exact ⟨c', x, by omega, z⟩
    · obtain ⟨c', x, y, z⟩ := ih (g + 1) (aSpeak A g) (c + 1) (by rw [e, h, nI_1])
      exact ⟨c', by omega, by omega, z⟩
theorem tick4 {b c : Nat} (h : A.1 4 b = nI c) : ∃ c', c ≤ c' ∧ c' ≤ c + 3 ∧ (aTick A).1 4 b = nI c' := by
  unfold aTick
  refine cry_up 3 0 _ c ?_
  rw [fr_keep (f := aReadGate) (fun A g => readGate_keep A g (by decide) (by decide)), fr_keep (f := aMove) (fun A v => funext fun i => move_keep A v (by decide) (by decide) (by decide) (by decide) (Or.inl (by decide)) (Or.inl (by decide))), aS_1, st_ne (Or.inl (by decide))]
  exact h
theorem shoutL {b c : Nat} (hb : b < 20) (hc : c + 3 < 2147483648) {L : gS} {N : Nat → Int32} (hL : L 16 b = nI c) (hN : N (5 * b + 4) = nI c) : ∀ (m i f : Nat) (s : ST) (r : gS) (B : AS) (T : Nat), i + m = 100 → 1 ≤ i → m < f → s.2.2.1 = L → r 3 = N → RA s.2.2.2.1 B → RB (r 4) B → Inv T B → InvP B → B.1 4 b = nI c → ∃ v s' r', fX3_shouted_L17 f s (nI b) (nI i) = some (.inr (v, s')) ∧ fX4_shouted_L27 f r (nI b) (nI i) = some (v, r') ∧ (s'.1 = s.1 ∧ s'.2.1 = s.2.1 ∧ s'.2.2.1 = s.2.2.1 ∧ s'.2.2.2.2 = s.2.2.2.2) ∧ ∀ k, k ≠ 4 → r' k = r k := by
  intro m
  induction m with
  | zero =>
    intro i f s r B T hi h1 hf _ _ _ _ _ _ _
    obtain ⟨f, rfl⟩ : ∃ z, f = z + 1 := ⟨f - 1, by omega⟩
    have : i = 100 := by omega
    subst this
    simp only [fX3_shouted_L17, fX4_shouted_L27]
    rw [if_pos (by decide), if_pos (by decide)]
    exact ⟨_, s, r, rfl, rfl, ⟨rfl, rfl, rfl, rfl⟩, fun _ _ => rfl⟩
  | succ m ih =>
    intro i f s r B T hi h1 hf e1 e2 hA hB hI hP h4
    obtain ⟨f, rfl⟩ : ∃ z, f = z + 1 := ⟨f - 1, by omega⟩
    have l1 : ¬ (99 : Int32) < nI i := fun q => by have := (lt_nI (a := 99) (b := i) (by omega) (by omega)).mp q; omega
    have l2 : ¬ (100 : Int32) ≤ nI i := fun q => by have := (le_nI (a := 100) (b := i) (by omega) (by omega)).mp q; omega
    simp only [fX3_shouted_L17, fX4_shouted_L27]
    rw [if_neg l1, if_neg l2]
    obtain ⟨L', a1, ⟨-, a2⟩, ⟨a3, a4⟩, -⟩ := passTicks_s hA hI hP (n := 1) (by decide)
    have a1' : fX1_passTicks s.2.2.2.1 1 = some L' := a1
    have one : aTicks 1 B = aTick B := rfl
    rw [one] at a2 a3 a4
    obtain ⟨row, b1, b2, -⟩ := tick_spec hB hI
    obtain ⟨c', d1, d2, d3⟩ := tick4 h4
    rw [a1', Option.bind_some, b1, Option.bind_some]
    simp (disch := omega) only [gl, gd_in, cl_nI, bookAt_4, Option.bind_some, nI_1]
    have t16 : L'.2 16 b = nI c' := by rw [(a2.2.2.2.1 b hb).2]; exact d3
    have r4 : stf r 4 row 4 (5 * b + 4) = nI c' := by rw [sf_eq, b2.bk (by omega) hb]; exact d3
    have r3 : stf r 4 row 3 (5 * b + 4) = nI c := by rw [sf_ne (by decide), e2]; exact hN
    rw [t16, r4, r3, e1, hL]
    by_cases q : c' = c
    · subst q
      rw [if_pos rfl, if_pos ((le_nI (by omega) (by omega)).mpr (Nat.le_refl _))]
      obtain ⟨v, s', r', j1, j2, j3, j4⟩ := ih (i + 1) f (s.1, s.2.1, L, L'.2, s.2.2.2.2) (stf r 4 row) (aTick B) (T + 3) (by omega) (by omega) (by omega) rfl (by rw [sf_ne (by decide)]; exact e2) a2 (by rw [sf_eq]; exact b2) a3 a4 d3
      refine ⟨v, s', r', j1, j2, ⟨j3.1, j3.2.1, j3.2.2.1, j3.2.2.2⟩, fun k hk => ?_⟩
      rw [j4 k hk, sf_ne hk]
    · rw [if_neg (fun z => q ((nI_inj (by omega) (by omega)).mp z)), if_neg (fun z => by have := (le_nI (by omega) (by omega)).mp z; omega)]
      exact ⟨_, _, _, rfl, rfl, ⟨rfl, rfl, rfl, rfl⟩, fun k hk => sf_ne hk⟩
theorem shouted_step (h : TopA T s r A) (hT : T + 3 < 2147483648) (q : Int32) : Step T cdO (fX3_shouted s q) (fX4_shouted r q) := by
  unfold fX3_shouted fX4_shouted
  by_cases hb : 0 ≤ q.toInt ∧ q.toInt < 20
  · rw [tb_in _ _ _ (by rw [reqB, if_pos hb]), mB, decide_eq_true hb, Option.bind_some, if_neg (show ¬ bI true = 0 by decide)]
    obtain ⟨b, hb20, eb⟩ := in_nI (n := 20) hb
    subst eb
    obtain ⟨hG, hA, hB, -⟩ := id h
    obtain ⟨t, a1, a2, -⟩ := copy_s s.2.2.2.1 hA (qlen_of hG.1)
    rw [a1, Option.bind_some]
    simp only [gl]
    unfold fX4_shouted_L13
    rw [refused_0, Option.bind_some, if_pos rfl]
    obtain ⟨r1, c1, c2, c3⟩ := tryIt_s (r := st2 r 0 0 0) (A := A) (by rw [row0]; exact hB) hG.1
    rw [c1, Option.bind_some]
    obtain ⟨c, hc, e4⟩ := hG.1.2.2.2.2.2.2 b hb20
    obtain ⟨v, s', r', j1, j2, ⟨j3, j4, j5, j6⟩, j7⟩ := shoutL (L := s.2.2.1) (N := r 3) hb20 (c := c) (by omega) (by rw [(hA.2.2.2.1 b hb20).2]; exact e4) (by rw [hB.bk (by omega) hb20]; exact e4) 99 1 gFuel (s.1, s.2.1, s.2.2.1, t, s.2.2.2.2) r1 A T rfl (by omega) (by decide) rfl (by rw [c2 3 (by decide), row0]) a2 c3 hG.1 hG.2 e4
    have f : ∀ k, k ≠ 4 → r' k = (st2 r 0 0 0) k := fun k hk => (j7 k hk).trans (c2 k hk)
    refine ⟨s', v, r', j2, ⟨A, TopA_upd (s' := s') h (Nat.le_refl _) j3 j4 j6 (by rw [j5]; exact hA) (by rw [f 3 (by decide), row0]; exact hB) hG (fun k j x y z => by rw [f k y, st_ne (by omega)])⟩, Or.inr ⟨j1, ?_⟩⟩
    rw [f 0 (by decide)]; rfl
  · rw [tb_out _ _ _ (by rw [reqB, if_neg hb]), mB, decide_eq_false hb, Option.bind_some, if_pos bI_f]
    unfold fX4_shouted_L13
    rw [refused_1, Option.bind_some, if_neg (show ¬ ((1 : Int32), st2 r 0 0 1).1 = 0 by show ¬ (1 : Int32) = 0; decide)]
    exact Step_no h (n := 3) rfl rfl (by decide) rfl
end SH
