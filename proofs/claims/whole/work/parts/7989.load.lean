section LD
variable {c : Nat → Nat} {len p : Nat} {T T' : Nat} {A A' : AS} {r r' : gS} {s : ST}
theorem pX_r {a : Hd} {l : List Cm} (h : pX c len = .inr (a, l)) : ∃ z, pH c len = .inr (a, z) ∧ pL c len 120 z = .inr l := by
  unfold pX at h
  rcases h1 : pH c len with e | ⟨a1, z⟩
  · rw [h1] at h; cases h
  · rw [h1] at h
    simp only [] at h
    rcases h2 : pL c len 120 z with e | l1
    · rw [h2] at h; cases h
    · rw [h2] at h; cases h
      exact ⟨z, rfl, h2⟩
theorem TopA_mono (h : TopA T s r A) (hT : T ≤ T') : TopA T' s r A := TopA_upd (s' := s) h hT rfl rfl rfl h.2.1 h.2.2.1 (Good_mono h.1 hT) (fun _ _ _ _ _ => rfl)
theorem TopA_txt (h : TopA T s r A) {t' : gS} {r2 : gS} (hT : Tx t' r2) (f : ∀ k j, k ≠ 2 → ¬ (k = 0 ∧ (j = 0 ∨ (3 ≤ j ∧ j ≤ 5))) → r2 k j = r k j) : TopA T (s.1, t', s.2.2) r2 A := by
  obtain ⟨hG, hA, hB, ⟨n, Ar, c1, c2, c3⟩, ⟨As, c4⟩, -⟩ := h
  have fk : ∀ k, k ≠ 0 → k ≠ 2 → r2 k = r k := fun k x y => funext fun j => f k j y (by omega)
  exact ⟨hG, hA, by rw [fk 3 (by decide) (by decide)]; exact hB, ⟨n, Ar, c1, by rw [f 0 10 (by decide) (by omega)]; exact c2, by rw [fk 5 (by decide) (by decide)]; exact c3⟩, ⟨As, by rw [fk 6 (by decide) (by decide), fk 7 (by decide) (by decide)]; exact c4⟩, hT⟩
theorem l15_s (hB : RB (r 2) A) (hI : Inv T A) {lo : Nat} (h5 : r 0 5 = nI lo) : ∃ r3, fX4_load_L15 r 0 = some (nI lo, r3) ∧ ((∀ k j, k ≠ 2 → k ≠ 3 → k ≠ 7 → ¬ (k = 0 ∧ (j = 0 ∨ j = 10)) → r3 k j = r k j) ∧ RB (r3 3) A ∧ r3 0 10 = 0 ∧ r3 7 0 = 0 ∧ r3 7 1 = 0 ∧ r3 0 0 = 0) := by
  have e2 : (st2 r 0 0 0) 2 = r 2 := funext fun j => st_ne (by omega)
  obtain ⟨row, k1, k2, -⟩ := X4_copy_233_233_spec (r 2) ((st2 r 0 0 0) 3) (s := 0) (d := 0) (n := 233) (by omega) (by omega)
  have k1' : fX4_copy_233_233 (r 2, (st2 r 0 0 0) 3) 0 0 233 = some (r 2, row) := k1
  obtain ⟨u, hu⟩ : ∃ u, u = st2 (st2 (st2 (stf (stf (st2 r 0 0 0) 2 (r 2)) 3 row) 0 10 0) 7 0 0) 7 1 0 := ⟨_, rfl⟩
  have g : ∀ k j, k ≠ 3 → k ≠ 7 → ¬ (k = 0 ∧ (j = 0 ∨ j = 10)) → u k j = r k j := fun k j a b d => by
    rw [hu, st_ne (by omega), st_ne (by omega), st_ne (by omega), sf_ne a]
    by_cases e : k = 2
    · subst e; rw [sf_eq]
    · rw [sf_ne e, st_ne (by omega)]
  have u3 : u 3 = row := funext fun j => by rw [hu, st_ne (by omega), st_ne (by omega), st_ne (by omega), sf_eq]
  refine ⟨u, ?_, fun k j _ a b d => g k j a b d, ?_, ?_, ?_, ?_, ?_⟩
  · unfold fX4_load_L15
    rw [refused_0, Option.bind_some, if_pos rfl]
    simp only []
    rw [e2, k1', Option.bind_some, gl_to rfl, gl_to rfl, cl_0, gl_to rfl, cl_1, gl_to rfl, ← hu, g 0 5 (by decide) (by decide) (by omega), h5]
  · rw [u3]
    exact RB_agree hB hI (fun j hj => by rw [k2 j (by omega) (by omega)]; exact congrArg (r 2) (by omega))
  · rw [hu, st_ne (by decide), st_ne (by decide), st_eq rfl rfl]
  · rw [hu, st_ne (by decide), st_eq rfl rfl]
  · rw [hu, st_eq rfl rfl]
  · rw [hu, st_ne (by decide), st_ne (by decide), st_ne (by decide), sf_ne (by decide), sf_ne (by decide), st_eq rfl rfl]
theorem small9 : ∀ e, e ≤ 120 → ¬ nI e = (-9 : Int32) := by decide +kernel
theorem load_step (h : TopA T s r A) : Step (T + 3240) cd1 (fX3_load s) (fX4_load r) := by
  obtain ⟨hG, hA, hB, ⟨n, Ar, c1, c2, hn, hr, hinj, hrem⟩, ⟨As, c4⟩, hT⟩ := id h
  obtain ⟨len, c, hl, hc, t1, t2, t3⟩ := Tx_c hT
  obtain ⟨t', a1, a2, a3⟩ := ferr_s hl hc t1
  obtain ⟨r', A', lo', x', b1, b2, b3, b4, b5⟩ := rTx (r := r) hl hc t2 t3
  have f : ∀ k j, k ≠ 2 → ¬ (k = 0 ∧ 3 ≤ j ∧ j ≤ 5) → r' k j = r k j := b4.2.2.2
  unfold fX3_load fX4_load
  rw [a1, b1, Option.bind_some, Option.bind_some, gl_to rfl]
  rcases hX : pX c len with e | ⟨a, l⟩
  · have ne := small9 e (by have := a3 e hX; omega)
    rw [if_neg (show ¬ pE (.inl e : Nat ⊕ (Hd × List Cm)) = -9 from ne), if_neg (show ¬ pE (.inl e : Nat ⊕ (Hd × List Cm)) = -9 from ne)]
    have hx : fX4_load_L15 r' 1 = some (0, st2 r' 0 0 1) := rfl
    refine ⟨(s.1, t', s.2.2), 0, st2 r' 0 0 1, hx, ⟨A, TopA_mono (TopA_txt h (Tx_of hl hc a2 ?_ (fun i hi => ?_)) (fun k j x y => ?_)) (by omega)⟩, Or.inl ⟨2, rfl, by decide, st_eq rfl rfl⟩⟩
    · rw [st_ne (by decide), f 0 2 (by decide) (by omega)]; exact t2
    · rw [st_ne (by omega), f 1 i (by decide) (by omega)]; exact t3 i hi
    · rw [st_ne (by omega), f k j x (by omega)]
  · obtain ⟨z, p1, p2⟩ := pX_r hX
    obtain ⟨e1, e2⟩ := b5 a l hX
    rw [if_pos (show pE (.inr (a, l) : Nat ⊕ (Hd × List Cm)) = -9 from rfl), if_pos (show pE (.inr (a, l) : Nat ⊕ (Hd × List Cm)) = -9 from rfl)]
    obtain ⟨r3, d1, d2, d3, d4, d5, d6, d7⟩ := l15_s b2 b3.1 b4.2.1
    obtain ⟨L0, f1, f2⟩ := fgE_s (s.1, t', s.2.2)
    rw [f1, Option.bind_some]
    unfold fX2_startReading
    simp only []
    rw [gl_to rfl, Option.bind_some, gl_to rfl]
    simp only []
    rcases cHd hl hc (TC_0 a2) with ⟨e, t2', k1, k2, k3⟩ | ⟨a', z', t2', k1, k2, k3, k4⟩
    · rw [p1] at k1; cases k1
    · rw [p1] at k1
      cases k1
      rw [k2, Option.bind_some, gl_to rfl]
      obtain ⟨L1, g1, g2⟩ := putG_s (s := (st2 (st2 (st2 s.1 0 4 0) 1 0 0) 1 1 0, t2', L0, s.2.2.2)) (a := a) f2 k4
      simp only [] at g1 ⊢
      rw [g1, Option.bind_some]
      obtain ⟨t3', L2, j1, j2, j3, j4⟩ := loadL hl hc 120 0 gFuel z 0 (st2 (st2 (st2 s.1 0 4 0) 1 0 0) 1 1 0, t2', L1, s.2.2.2) (aHdr a) 0 l (by omega) (by omega) (by decide) k3 g2 (Good_hdr a) p2
      have j1' : fX3_load_L49 gFuel (st2 (st2 (st2 s.1 0 4 0) 1 0 0) 1 1 0, t2', L1, s.2.2.2) 0 0 = some (.inr (nI (cRun (aHdr a) l).2, (st2 (st2 (st2 s.1 0 4 0) 1 0 0) 1 1 0, t3', L2, s.2.2.2))) := by rw [← Nat.zero_add (cRun (aHdr a) l).2]; exact j1
      rw [j1']
      subst e1
      rw [e2] at d1
      have fk : ∀ k, k ≠ 0 → k ≠ 2 → k ≠ 3 → k ≠ 7 → r3 k = r k := fun k w0 w2 w3 w7 => funext fun j => by rw [d2 k j w2 w3 w7 (by omega), f k j w2 (by omega)]
      refine ⟨(st2 (st2 (st2 s.1 0 4 0) 1 0 0) 1 1 0, t3', L2, s.2.2.2), _, r3, d1, ⟨(cRun (aHdr a) l).1, Good_mono j4 (by omega), j3, d3, ⟨0, Ar, ?_, d4, by omega, hr, hinj, fun i hi => absurd hi (Nat.not_lt_zero _)⟩, ⟨As, fun k hk => ?_⟩, ?_⟩, Or.inr ⟨rfl, d7⟩⟩
      · show st2 (st2 (st2 s.1 0 4 0) 1 0 0) 1 1 0 0 4 = _
        rw [st_ne (by decide), st_ne (by decide), st_eq rfl rfl]; rfl
      · have t0 : st2 (st2 (st2 s.1 0 4 0) 1 0 0) 1 1 0 1 k = 0 := by
          rcases (by omega : k = 0 ∨ k = 1) with rfl | rfl
          · rw [st_ne (by decide), st_eq rfl rfl]
          · rw [st_eq rfl rfl]
        have i0 : r3 7 k = 0 := by
          rcases (by omega : k = 0 ∨ k = 1) with rfl | rfl
          · exact d5
          · exact d6
        refine ⟨Or.inl t0, by rw [i0]; exact t0.symm, fun q => ?_⟩
        have q' : st2 (st2 (st2 s.1 0 4 0) 1 0 0) 1 1 0 1 k = 1 := q
        rw [t0] at q'
        exact absurd q' (by decide)
      · exact Tx_of hl hc j2 (by rw [d2 0 2 (by decide) (by decide) (by decide) (by omega), f 0 2 (by decide) (by omega)]; exact t2) (fun i hi => by rw [fk 1 (by decide) (by decide) (by decide) (by decide)]; exact t3 i hi)
/-- the new objects -/
theorem Top_new : ∃ (σL : gS) (ν : Nat → Int32), fX1_clear (sL zS) = some σL ∧ fX4_clean (fun _ => 0) = some ν ∧ Top 0 (zS, zS, σL, σL, (fun _ => σL), fun i => i) (stf zS 3 ν) := by
  obtain ⟨σL, k1, k2, -⟩ := clear_s (sL zS)
  obtain ⟨ν, n1, n2⟩ := clean_spec (fun _ => 0)
  refine ⟨σL, ν, k1, n1, aClean, Good_clean, k2, by rw [sf_eq]; exact n2, ⟨0, fun _ => aClean, rfl, ?_, by omega, fun i hi => hi, fun i j _ _ e => e, fun i hi => absurd hi (Nat.not_lt_zero _)⟩, ⟨fun _ => aClean, fun k hk => ⟨Or.inl rfl, ?_, fun q => absurd q (show ¬ (0 : Int32) = 1 by decide)⟩⟩, 0, by omega, rfl, ?_, fun i hi => absurd hi (Nat.not_lt_zero _)⟩
  · rw [sf_ne (by decide)]; rfl
  · show stf zS 3 ν 7 k = zS 1 k
    rw [sf_ne (by decide)]; rfl
  · rw [sf_ne (by decide)]; rfl
end LD
