section SC
variable {T T' : Nat} {B : AS} {σ : gS} {s : ST} {r : gS}
theorem gl_to {α β : Type} {x y : α} (h : x = y) (k : α → β) : gl x k = k y := by subst h; rfl
theorem dgt {G d e : Nat} (hG : G < 2147483648) (hd : 0 < d) (hd2 : d < 2147483648) (he : 0 < e) (he2 : e < 2147483648) : nI G / nI d - nI G / nI d / nI e * nI e = nI (G / d % e) := by
  have h2 : G / d < 2147483648 := Nat.lt_of_le_of_lt (Nat.div_le_self _ _) hG
  rw [pk_div hG hd hd2, pk_rem h2 he he2]
theorem nz {d : Nat} (hd : d < 2147483648) (h : ¬ d = 0) : ¬ nI d = 0 := fun z => h ((nI_inj (b := 0) hd (by omega)).mp z)
theorem Pr_neg {c d : Prop} [Decidable c] [Decidable d] {x1 x2 : Option (Int32 × ST)} {y1 y2 : Option (Int32 × gS)} (hc : ¬ c) (hd : ¬ d) (h : Pr T s r x2 y2) : Pr T s r (if c then x1 else x2) (if d then y1 else y2) := by rw [if_neg hc, if_neg hd]; exact h
theorem Pr_pos {c d : Prop} [Decidable c] [Decidable d] {x1 x2 : Option (Int32 × ST)} {y1 y2 : Option (Int32 × gS)} (hc : c) (hd : d) (h : Pr T s r x1 y1) : Pr T s r (if c then x1 else x2) (if d then y1 else y2) := by rw [if_pos hc, if_pos hd]; exact h
theorem Pr_iff {c d : Prop} [Decidable c] [Decidable d] {x1 x2 : Option (Int32 × ST)} {y1 y2 : Option (Int32 × gS)} (e : c ↔ d) (h1 : c → Pr T s r x1 y1) (h2 : ¬ c → Pr T s r x2 y2) : Pr T s r (if c then x1 else x2) (if d then y1 else y2) := by
  by_cases q : c
  · exact Pr_pos q (e.mp q) (h1 q)
  · exact Pr_neg q (fun z => q (e.mpr z)) (h2 q)
theorem does_pr (hA : RA s.2.2.2.1 B) (hB : RB (r 4) B) (hG : Good T B) {G : Nat} (hG5 : G < 100000) : Pr (T + 150) s r (fX3_doScriptCommand s (nI G)) (fX4_does r (nI G)) := by
  obtain ⟨w, hw⟩ : ∃ w, w = G / 10000 := ⟨_, rfl⟩
  obtain ⟨d2, h2⟩ : ∃ d, d = G / 1000 % 10 := ⟨_, rfl⟩
  obtain ⟨d3, h3⟩ : ∃ d, d = G / 100 % 10 := ⟨_, rfl⟩
  obtain ⟨d4, h4⟩ : ∃ d, d = G / 10 % 10 := ⟨_, rfl⟩
  obtain ⟨d5, h5⟩ : ∃ d, d = G % 10 := ⟨_, rfl⟩
  have l2 : d2 < 10 := by omega
  have l3 : d3 < 10 := by omega
  have l4 : d4 < 10 := by omega
  have l5 : d5 < 10 := by omega
  have lw : w < 10 := by omega
  have hbb : G / 10 % 100 = 10 * d3 + d4 := by omega
  have htwo : G / 100 % 100 = 10 * d2 + d3 := by omega
  have h1000 : G % 1000 = 100 * d3 + (10 * d4 + d5) := by omega
  have h100 : G % 100 = 10 * d4 + d5 := by omega
  have e2 : nI G / (1000 : Int32) - nI G / (1000 : Int32) / (10 : Int32) * (10 : Int32) = nI d2 := by rw [h2]; exact dgt (d := 1000) (e := 10) (by omega) (by decide) (by decide) (by decide) (by decide)
  have e3 : nI G / (100 : Int32) - nI G / (100 : Int32) / (10 : Int32) * (10 : Int32) = nI d3 := by rw [h3]; exact dgt (d := 100) (e := 10) (by omega) (by decide) (by decide) (by decide) (by decide)
  have e4 : nI G / (10 : Int32) - nI G / (10 : Int32) / (10 : Int32) * (10 : Int32) = nI d4 := by rw [h4]; exact dgt (d := 10) (e := 10) (by omega) (by decide) (by decide) (by decide) (by decide)
  have e5 : nI G - nI G / (10 : Int32) * (10 : Int32) = nI d5 := by rw [h5]; exact pk_rem (d := 10) (by omega) (by decide) (by decide)
  have e7 : (10 : Int32) * nI d3 + nI d4 = nI (10 * d3 + d4) := by rw [li_10, pk_mul, nI_add]
  have e8 : (10 : Int32) * nI d4 + nI d5 = nI (10 * d4 + d5) := by rw [li_10, pk_mul, nI_add]
  have e9 : nI G / (10000 : Int32) = nI w := by rw [hw]; exact pk_div (d := 10000) (by omega) (by decide) (by decide)
  have f4 : nI G / (10 : Int32) - nI G / (10 : Int32) / (100 : Int32) * (100 : Int32) = nI (10 * d3 + d4) := by rw [← hbb]; exact dgt (d := 10) (e := 100) (by omega) (by decide) (by decide) (by decide) (by decide)
  have f6 : nI G / (100 : Int32) - nI G / (100 : Int32) / (100 : Int32) * (100 : Int32) = nI (10 * d2 + d3) := by rw [← htwo]; exact dgt (d := 100) (e := 100) (by omega) (by decide) (by decide) (by decide) (by decide)
  have f1000 : nI G - nI G / (1000 : Int32) * (1000 : Int32) = nI (100 * d3 + (10 * d4 + d5)) := by rw [← h1000]; exact pk_rem (d := 1000) (by omega) (by decide) (by decide)
  have f100 : nI G - nI G / (100 : Int32) * (100 : Int32) = nI (10 * d4 + d5) := by rw [← h100]; exact pk_rem (d := 100) (by omega) (by decide) (by decide)
  have m4 : nI (10 * d3 + d4) - nI (10 * d3 + d4) / (10 : Int32) * (10 : Int32) = nI d4 := by rw [show d4 = (10 * d3 + d4) % 10 by omega]; exact (pk_rem (d := 10) (by omega) (by decide) (by decide)).trans (by rw [show (10 * d3 + (10 * d3 + d4) % 10) % 10 = (10 * d3 + d4) % 10 by omega])
  have m3 : nI (10 * d3 + d4) / (10 : Int32) = nI d3 := by rw [show nI d3 = nI ((10 * d3 + d4) / 10) by rw [show (10 * d3 + d4) / 10 = d3 by omega]]; exact pk_div (d := 10) (by omega) (by decide) (by decide)
  clear hw h2 h3 h4 h5 hbb htwo h1000 h100
  have z2 : ¬ d2 = 0 → ¬ nI d2 = 0 := nz (by omega)
  have z3 : ¬ d3 = 0 → ¬ nI d3 = 0 := nz (by omega)
  have z4 : ¬ d4 = 0 → ¬ nI d4 = 0 := nz (by omega)
  have z5 : ¬ d5 = 0 → ¬ nI d5 = 0 := nz (by omega)
  have no : Pr (T + 150) s r (some ((0 : Int32), s)) (some ((0 : Int32), r)) := Pr_mono (Pr_no hA hB hG false rfl rfl) (by omega)
  have yes : ∀ c : Bool, Pr (T + 150) s r (some (bI c, s)) (some (bI c, r)) := fun c => Pr_mono (Pr_no hA hB hG c rfl rfl) (by omega)
  unfold fX3_doScriptCommand fX4_does
  rw [gl_to e2, gl_to e3, gl_to e4, gl_to e5, gl_to e7, gl_to e8, gl_to e9, gl_to e9, gl_to e2, gl_to f4, gl_to e5, gl_to f6]
  clear e2 e3 e4 e5 e7 e8 e9 f4 f6
  rcases (by omega : w = 0 ∨ w = 1 ∨ w = 2 ∨ w = 3 ∨ w = 4 ∨ w = 5 ∨ w = 6 ∨ w = 7 ∨ w = 8 ∨ w = 9) with rfl | rfl | rfl | rfl | rfl | rfl | rfl | rfl | rfl | rfl
  · exact Pr_neg (by decide) (by decide) (Pr_neg (by decide) (by decide) (Pr_neg (by decide) (by decide) (Pr_neg (by decide) (by decide) (Pr_neg (by decide) (by decide) (Pr_neg (by decide) (by decide) (Pr_neg (by decide) (by decide) (Pr_neg (by decide) (by decide) (Pr_neg (by decide) (by decide) no))))))))
  · refine Pr_pos rfl rfl (Pr_iff Iff.rfl (fun c5 => ?_) (fun c5 => no))
    exact Pr_mono (Pr_Pt (pTake hA hB hG (by omega) (by omega))) (by omega)
  all_goals refine Pr_neg (by decide) (by decide) ?_
  · refine Pr_pos rfl rfl (Pr_iff Iff.rfl (fun c2 => ?_) (fun c2 => no))
    exact Pr_mono (Pr_if (pBook hA hB hG (by omega) (by omega))) (by omega)
  all_goals refine Pr_neg (by decide) (by decide) ?_
  · refine Pr_pos rfl rfl ?_
    have le : (1 : Int32) < nI d4 ↔ 1 < d4 := lt_nI (a := 1) (by omega) (by omega)
    have ge : (2 : Int32) ≤ nI d4 ↔ 2 ≤ d4 := le_nI (a := 2) (by omega) (by omega)
    by_cases c5 : d5 = 0
    · subst c5
      rw [if_pos (show nI 0 = 0 from rfl), if_pos (show nI 0 = 0 from rfl), gl_to m4]
      refine Pr_iff (le.trans (by omega : (1 < d4 ↔ 2 ≤ d4)) |>.trans ge.symm) (fun _ => no) (fun c4 => ?_)
      have c4' : ¬ 1 < d4 := fun z => c4 (le.mpr z)
      rw [gl_to m4, m3]
      unfold fX3_doScriptCommand_L181 fX4_does_L169
      rcases (by omega : d4 = 0 ∨ d4 = 1) with rfl | rfl
      · refine Pr_neg (by decide) (by decide) ?_
        exact Pr_mono (Pr_Pt (pWalk hA hB hG (v := d2) (g := d3) (by omega) (by omega) false)) (by omega)
      · refine Pr_pos rfl rfl ?_
        exact Pr_mono (Pr_Pt (pWalk hA hB hG (v := d2) (g := d3) (by omega) (by omega) true)) (by omega)
    · rw [if_neg (z5 c5), if_neg (z5 c5), ite_self]; exact no
  all_goals refine Pr_neg (by decide) (by decide) ?_
  · refine Pr_pos rfl rfl ?_
    rw [gl_to f1000]
    by_cases c : d3 = 0 ∧ 10 * d4 + d5 = 0
    · rw [if_pos (show nI d3 = 0 by rw [c.1]; rfl), if_pos (show nI (10 * d4 + d5) = 0 by rw [c.2]; rfl), if_pos (show nI (100 * d3 + (10 * d4 + d5)) = 0 by rw [c.1, c.2]; rfl)]
      exact Pr_mono (Pr_Pt (pTurn hA hB hG (by omega))) (by omega)
    · rw [if_neg (nz (d := 100 * d3 + (10 * d4 + d5)) (by omega) (by omega))]
      by_cases c3 : d3 = 0
      · rw [if_neg (nz (d := 10 * d4 + d5) (by omega) (by omega)), ite_self]; exact no
      · rw [if_neg (z3 c3)]; exact no
  all_goals refine Pr_neg (by decide) (by decide) ?_
  · refine Pr_pos rfl rfl ?_
    rw [gl_to f100]
    by_cases c : d2 = 0 ∧ d3 = 0
    · rw [if_pos (show nI d2 = 0 by rw [c.1]; rfl), if_pos (show nI d3 = 0 by rw [c.2]; rfl), if_pos (show nI (10 * d2 + d3) = 0 by rw [c.1, c.2]; rfl)]
      obtain ⟨n, hn⟩ : ∃ n, n = 10 * d4 + d5 := ⟨_, rfl⟩
      rw [← hn]
      have hti : (nI n).toInt = (n : Int) := Int32.toInt_ofNat_of_lt (by omega)
      unfold fX3_isTickNumber fX4_passes
      rw [inI_spec _ 1 50 1 50 (by decide) (by decide), Option.bind_some, hti]
      have a1 : nI n < (1 : Int32) ↔ n < 1 := lt_nI (b := 1) (by omega) (by omega)
      have a2 : (50 : Int32) < nI n ↔ 50 < n := lt_nI (a := 50) (by omega) (by omega)
      have noB : Pr (T + 150) s r (some ((0 : Int32), s)) (Option.bind (some ((0 : Int32), r)) fun r19 => if r19.1 = 0 then some ((0 : Int32), r19.2) else some ((1 : Int32), r19.2)) := no
      by_cases c1 : n < 1
      · rw [if_pos (a1.mpr c1), decide_eq_false (by omega), if_pos bI_f]; exact noB
      · by_cases c2 : 50 < n
        · rw [if_neg (fun z => c1 (a1.mp z)), if_pos (a2.mpr c2), decide_eq_false (by omega), if_pos bI_f]; exact noB
        · rw [if_neg (fun z => c1 (a1.mp z)), if_neg (fun z => c2 (a2.mp z)), decide_eq_true (by omega), if_neg (show ¬ bI true = 0 by decide)]
          obtain ⟨q, k1, ⟨-, k2⟩, ⟨k3, k4⟩, -⟩ := passTicks_s hA hG.1 hG.2 (n := n) (by omega)
          obtain ⟨q', j1, ⟨-, j2⟩, -⟩ := ticksIn_spec hB hG.1 (n := n) (by omega)
          rw [Option.bind_some, if_neg (show ¬ (((1 : Int32), ()) : Int32 × Unit).1 = 0 by show ¬ (1 : Int32) = 0; decide), k1, Option.bind_some, j1, Option.bind_some]
          exact ⟨true, q.2, q'.2, _, rfl, rfl, k2, j2, Inv_mono k3 (by omega), k4⟩
    · rw [if_neg (nz (d := 10 * d2 + d3) (by omega) (by omega))]
      by_cases c2 : d2 = 0
      · rw [if_neg (z3 (by omega)), ite_self]; exact no
      · rw [if_neg (z2 c2)]; exact no
  all_goals refine Pr_neg (by decide) (by decide) ?_
  · refine Pr_pos rfl rfl ?_
    by_cases c2 : d2 = 0
    · subst c2
      rw [if_pos (show nI 0 = 0 from rfl), if_pos (show nI 0 = 0 from rfl), isBook_s (by omega), mBn (by omega), Option.bind_some, Option.bind_some]
      by_cases cb : 10 * d3 + d4 < 20
      · rw [decide_eq_true cb, if_neg (show ¬ bI true = 0 by decide), if_neg (show ¬ bI true = 0 by decide), isM_has hA.2.2.1 cb, Option.bind_some, oneIf_bI, Option.bind_some]
        simp only []
        have h01 := (hG.1.2.1 _ cb).2
        rw [bI_eq h01]
        have ge : (2 : Int32) ≤ nI d5 ↔ 2 ≤ d5 := le_nI (a := 2) (by omega) (by omega)
        by_cases c5 : 2 ≤ d5
        · rw [if_pos (ge.mpr c5), if_neg (fun z => by
            rcases h01 with e | e
            · rw [e] at z; have := (nI_inj (a := 0) (by omega) (by omega)).mp z; omega
            · rw [e] at z; have := (nI_inj (a := 1) (by omega) (by omega)).mp z; omega)]
          exact no
        · rw [if_neg (fun z => c5 (ge.mp z))]
          simp (disch := omega) only [bookAt_3, Option.bind_some, gd_in, cl_nI]
          rw [hB.bk (k := 3) (by omega) cb]
          by_cases e : B.1 3 (10 * d3 + d4) = nI d5
          · rw [if_pos e, if_pos e]; exact yes true
          · rw [if_neg e, if_neg e]; exact no
      · rw [decide_eq_false cb, if_pos bI_f, if_pos bI_f]; exact no
    · rw [if_neg (z2 c2), if_neg (z2 c2)]; exact no
  all_goals refine Pr_neg (by decide) (by decide) ?_
  · refine Pr_pos rfl rfl ?_
    rw [mVn (by omega), Option.bind_some]
    by_cases c : d3 = 0 ∧ d4 = 0
    · rw [if_pos (show nI d3 = 0 by rw [c.1]; rfl), if_pos (show nI d4 = 0 by rw [c.2]; rfl), isVisitor_s (by omega), Option.bind_some]
      by_cases cv : d2 < 6
      · rw [decide_eq_true cv, if_neg (show ¬ bI true = 0 by decide), if_neg (show ¬ bI true = 0 by decide), if_pos (show nI (10 * d3 + d4) = 0 by rw [c.1, c.2]; rfl)]
        simp (disch := omega) only [visitorAt_0, Option.bind_some, gd_in, cl_nI]
        rw [hA.wh cv, hB.vs (k := 0) (by omega) cv]
        by_cases e : B.1 5 d2 = nI d5
        · rw [if_pos e, if_pos (show B.1 (5 + 0) d2 = nI d5 from e)]; exact yes true
        · rw [if_neg e, if_neg (show ¬ B.1 (5 + 0) d2 = nI d5 from e)]; exact no
      · rw [decide_eq_false cv, if_pos bI_f, if_pos bI_f]; exact no
    · rw [if_neg (nz (d := 10 * d3 + d4) (by omega) (by omega)), ite_self]
      by_cases c3 : d3 = 0
      · rw [if_neg (z4 (by omega)), ite_self]; exact no
      · rw [if_neg (z3 c3)]; exact no
  all_goals refine Pr_neg (by decide) (by decide) ?_
  · refine Pr_pos rfl rfl ?_
    rw [gl_to f100]
    by_cases c : d2 = 0 ∧ d3 = 0
    · rw [if_pos (show nI d2 = 0 by rw [c.1]; rfl), if_pos (show nI d3 = 0 by rw [c.2]; rfl), if_pos (show nI (10 * d2 + d3) = 0 by rw [c.1, c.2]; rfl), cl_201, hA.2.2.2.2.2.2.2.1.2.2.2.2, hB.2.2.2.2.1.2.2.2.2]
      by_cases e : nI (10 * d4 + d5) < B.1 12 4
      · rw [if_pos e, if_pos e]; exact no
      · rw [if_neg e, if_neg e]; exact yes true
    · rw [if_neg (nz (d := 10 * d2 + d3) (by omega) (by omega))]
      by_cases c2 : d2 = 0
      · rw [if_neg (z3 (by omega)), ite_self]; exact no
      · rw [if_neg (z2 c2)]; exact no
  · refine Pr_neg (by decide) (by decide) (Pr_pos rfl rfl ?_)
    rw [gl_to f100]
    by_cases c : d2 = 0 ∧ d3 = 0
    · rw [if_pos (show nI d2 = 0 by rw [c.1]; rfl), if_pos (show nI d3 = 0 by rw [c.2]; rfl), if_pos (show nI (10 * d2 + d3) = 0 by rw [c.1, c.2]; rfl), cl_199, hB.sh, shoutC_s hA, Option.bind_some]
      simp only [gl]
      by_cases e : aShouts B < nI (10 * d4 + d5)
      · rw [if_pos e, if_pos e]; exact no
      · rw [if_neg e, if_neg e]; exact yes true
    · rw [if_neg (nz (d := 10 * d2 + d3) (by omega) (by omega))]
      by_cases c2 : d2 = 0
      · rw [if_neg (z3 (by omega)), ite_self]; exact no
      · rw [if_neg (z2 c2)]; exact no
end SC
