section TW
variable {c : Nat → Nat} {len p lo : Nat} {T : Nat} {A : AS} {r r0 : gS} {x : Nat ⊕ Nat} {s : ST}
theorem pH_P : pP (pA (pP (pA (pP (pA (pP (pA (pP (pA (pP (pS c len 76 76 0)) (pT c len 15))) (pT c len 15))) (pT c len 15))) (pD c len 1 3))) (pD c len 0 9)) = pP (pH c len) := by
  unfold pH
  rcases pS c len 76 76 0 with e | ⟨a, z⟩
  · rfl
  simp only [pP, pA, pB]
  rcases pT c len 15 z with e | ⟨a0, z0⟩
  · rfl
  simp only []
  rcases pT c len 15 z0 with e | ⟨a1, z1⟩
  · rfl
  simp only []
  rcases pT c len 15 z1 with e | ⟨a2, z2⟩
  · rfl
  simp only []
  rcases pD c len 1 3 z2 with e | ⟨a3, z3⟩
  · rfl
  simp only []
  rcases pD c len 0 9 z3 with e | ⟨a4, z4⟩ <;> rfl
theorem pH_V {a : Hd} {z : Nat} (h : pH c len = .inr (a, z)) : ∃ q p0 p1 p2 p3 p4, pS c len 76 76 0 = .inr (q, p0) ∧ pT c len 15 p0 = .inr (a.1.1, p1) ∧ pT c len 15 p1 = .inr (a.1.2.1, p2) ∧ pT c len 15 p2 = .inr (a.1.2.2, p3) ∧ pD c len 1 3 p3 = .inr (a.2.1, p4) ∧ pD c len 0 9 p4 = .inr (a.2.2, z) := by
  unfold pH at h
  obtain ⟨q, p0, e0, h⟩ := pB_inv h
  obtain ⟨a0, p1, e1, h⟩ := pB_inv h
  obtain ⟨a1, p2, e2, h⟩ := pB_inv h
  obtain ⟨a2, p3, e3, h⟩ := pB_inv h
  obtain ⟨a3, p4, e4, h⟩ := pB_inv h
  obtain ⟨a4, p5, e5, h⟩ := pB_inv h
  cases h
  exact ⟨q, p0, p1, p2, p3, p4, e0, e1, e2, e3, e4, e5⟩
theorem rHg (hl : len ≤ 120) (hc : ∀ i, i < len → c i ≤ 255) (h : TR c len r0 r x lo) (hB : RB (r 2) A) (hG : Good T A) {g : Nat} (hg : g < 3) (f : Nat) : ∃ r' d, fX4_readText_L58 (f + 1) r (nI g) = fX4_readText_L58 f r' (nI (g + 1)) ∧ RB (r' 2) (aS A 9 g (nI d)) ∧ TR c len r0 r' (pP (pA x (pT c len 15))) lo ∧ ∀ d' z, pA x (pT c len 15) = .inr (d', z) → d = d' := by
  obtain ⟨d, r1, k1, k2, k3, k4, k5⟩ := rTw hl hc h (most := 15) (by decide)
  refine ⟨st2 r1 2 (124 + 4 * g + 0) (nI d), d, ?_, ?_, TR_row k4 _, k5⟩
  · simp only [fX4_readText_L58]
    rw [if_neg (fun q => absurd ((lel_3 (by omega)).mp q) (by omega)), gateAt_0, Option.bind_some, show fX4_two r 15 = some (nI d, r1) from k1, Option.bind_some, gd_in (by omega) (by decide), gl_to rfl, nI_1, cl_nI (by omega)]
  · rw [st2_stf, sf_eq, k3]
    exact RB_gt hB (qlen_of hG.1) hG.1.ql (k := 0) (by decide) hg _
theorem rHe (hl : len ≤ 120) (hc : ∀ i, i < len → c i ≤ 255) (h : TR c len r0 r x lo) (hB : RB (r 2) A) (hG : Good T A) (f : Nat) : ∃ r' d d2, fX4_readText_L58 (f + 1) r (nI 3) = fX4_readText_L114 gFuel r' ∧ RB (r' 2) (aS (aS A 12 0 (nI d)) 12 1 (nI d2)) ∧ TR c len r0 r' (pP (pA (pP (pA x (pD c len 1 3))) (pD c len 0 9))) lo ∧ (∀ d' z, pA x (pD c len 1 3) = .inr (d', z) → d = d') ∧ ∀ d' z, pA (pP (pA x (pD c len 1 3))) (pD c len 0 9) = .inr (d', z) → d2 = d' := by
  obtain ⟨d, r1, k1, -, k3, k4, k5⟩ := rDg hl hc h (l := 1) (hi := 3) (by decide) (by decide)
  have k4' : TR c len r0 (st2 r1 2 196 (nI d)) (pP (pA x (pD c len 1 3))) lo := TR_row k4 _
  obtain ⟨d2, r2, j1, -, j3, j4, j5⟩ := rDg hl hc k4' (l := 0) (hi := 9) (by decide) (by decide)
  refine ⟨st2 r2 2 197 (nI d2), d, d2, ?_, ?_, TR_row j4 _, k5, j5⟩
  · simp only [fX4_readText_L58]
    rw [if_pos (show (3 : Int32) ≤ nI 3 by decide), show fX4_digit r 1 3 = some (nI d, r1) from k1, Option.bind_some, gl_to rfl, cl_196, show fX4_digit (st2 r1 2 196 (nI d)) 0 9 = some (nI d2, r2) from j1, Option.bind_some, gl_to rfl, cl_197]
  · rw [st2_stf, sf_eq, j3, st2_stf, sf_eq, k3]
    have g1 : Good T (aS A 12 0 (nI d)) := Good_aS hG (Or.inr rfl)
    exact RB_gl (RB_gl hB (qlen_of hG.1) hG.1.ql (i := 196) (j := 0) (by omega) _) (qlen_of g1.1) g1.1.ql (i := 197) (j := 1) (by omega) _
/-- the reference's reading, the header -/
theorem rHd (hl : len ≤ 120) (hc : ∀ i, i < len → c i ≤ 255) (h1 : r 0 2 = nI len) (h2 : ∀ i, i < len → r 1 i = nI (c i)) : ∃ r' A', fX4_readText r = fX4_readText_L114 gFuel r' ∧ RB (r' 2) A' ∧ Good 0 A' ∧ TR c len r r' (pP (pH c len)) 0 ∧ ∀ a z, pH c len = .inr (a, z) → A' = aHdr a := by
  obtain ⟨row, k1, k2⟩ := clean_spec (r 2)
  obtain ⟨u, hu⟩ : ∃ u, u = stf (st2 (st2 (st2 r 0 3 0) 0 4 1) 0 5 0) 2 row := ⟨_, rfl⟩
  have fu : ∀ k j, k ≠ 2 → ¬ (k = 0 ∧ 3 ≤ j ∧ j ≤ 5) → u k j = r k j := fun k j a b => by
    rw [hu, sf_ne a, st_ne (by omega), st_ne (by omega), st_ne (by omega)]
  have u2 : u 2 = row := by rw [hu, sf_eq]
  have u3 : u 0 3 = 0 := by rw [hu, sf_ne (by decide), st_ne (by decide), st_ne (by decide), st_eq rfl rfl]
  have u4 : u 0 4 = bI true := by rw [hu, sf_ne (by decide), st_ne (by decide), st_eq rfl rfl]; rfl
  have u5 : u 0 5 = 0 := by rw [hu, sf_ne (by decide), st_eq rfl rfl]
  have ul : u 0 2 = nI len := by rw [fu 0 2 (by decide) (by omega)]; exact h1
  have t0 : TR c len r u (.inr 0) 0 := ⟨⟨ul, fun i hi => by rw [fu 1 i (by decide) (by omega)]; exact h2 i hi⟩, u5, ⟨u4, u3, Nat.zero_le _⟩, fu⟩
  have start : ∀ b : Bool, (b = true → 0 < len) → pAcc (.inr 0) b = pP (pS c len 76 76 0) → ∃ r' A', fX4_readText_L58 gFuel (aAcc u b) 0 = fX4_readText_L114 gFuel r' ∧ RB (r' 2) A' ∧ Good 0 A' ∧ TR c len r r' (pP (pH c len)) 0 ∧ ∀ a z, pH c len = .inr (a, z) → A' = aHdr a := fun b hb hx => by
    have t1 : TR c len r (aAcc u b) (pP (pS c len 76 76 0)) 0 := by rw [← hx]; exact TR_acc hl t0 (b := b) hb
    have B0 : RB ((aAcc u b) 2) aClean := by rw [aAcc_2, u2]; exact k2
    have G0 : Good 0 aClean := Good_clean
    obtain ⟨f, hf⟩ : ∃ f, gFuel = f + 1 + 1 + 1 + 1 := ⟨4996, rfl⟩
    obtain ⟨r1, d1, a1, a2, a3, a4⟩ := rHg hl hc t1 B0 G0 (g := 0) (by decide) (f + 1 + 1 + 1)
    have G1 : Good 0 (aS aClean 9 0 (nI d1)) := Good_aS G0 (Or.inl rfl)
    obtain ⟨r2, d2, b1, b2, b3, b4⟩ := rHg hl hc a3 a2 G1 (g := 1) (by decide) (f + 1 + 1)
    have G2 := Good_aS G1 (k := 9) (i := 1) (x := nI d2) (Or.inl rfl)
    obtain ⟨r3, d3, c1, c2, c3, c4⟩ := rHg hl hc b3 b2 G2 (g := 2) (by decide) (f + 1)
    have G3 := Good_aS G2 (k := 9) (i := 2) (x := nI d3) (Or.inl rfl)
    obtain ⟨r4, d4, d5, e1, e2, e3, e4, e5⟩ := rHe hl hc c3 c2 G3 f
    rw [pH_P] at e3
    have run : fX4_readText_L58 (f + 1 + 1 + 1 + 1) (aAcc u b) 0 = fX4_readText_L114 gFuel r4 := a1.trans (b1.trans (c1.trans e1))
    rw [← hf] at run
    refine ⟨r4, _, run, e2, Good_aS (Good_aS G3 (Or.inr rfl)) (Or.inr rfl), e3, fun a z q => ?_⟩
    obtain ⟨q0, p0, p1, p2, p3, p4, w0, w1, w2, w3, w4, w5⟩ := pH_V q
    rw [w0] at a4 b4 c4 e4 e5
    have v1 := a4 _ _ w1
    rw [show pP (pA (pP (.inr (q0, p0) : PR Nat)) (pT c len 15)) = .inr p1 from by show pP (pT c len 15 p0) = _; rw [w1]; rfl] at b4 c4 e4 e5
    have v2 := b4 _ _ w2
    rw [show pP (pA (.inr p1) (pT c len 15)) = .inr p2 from by show pP (pT c len 15 p1) = _; rw [w2]; rfl] at c4 e4 e5
    have v3 := c4 _ _ w3
    rw [show pP (pA (.inr p2) (pT c len 15)) = .inr p3 from by show pP (pT c len 15 p2) = _; rw [w3]; rfl] at e4 e5
    have v4 := e4 _ _ w4
    rw [show pP (pA (.inr p3) (pD c len 1 3)) = .inr p4 from by show pP (pD c len 1 3 p3) = _; rw [w4]; rfl] at e5
    have v5 := e5 _ _ w5
    rw [v1, v2, v3, v4, v5]
    rfl
  unfold fX4_readText
  rw [gl_to rfl, gl_to rfl, gl_to rfl]
  have ec : (st2 (st2 (st2 r 0 3 0) 0 4 1) 0 5 0) 2 = r 2 := funext fun j => by rw [st_ne (by omega), st_ne (by omega), st_ne (by omega)]
  rw [ec, k1, Option.bind_some, gl_to rfl, ← hu, ul, u3]
  by_cases q : 0 < len
  · rw [if_neg (fun z => by have := (nI_le0 (by omega)).mp z; omega), gd_t (show inb 0 120 by decide), cl_0, fu 1 0 (by decide) (by omega), h2 0 q]
    have h76 : nI (c 0) = (76 : Int32) ↔ c 0 = 76 := nI_inj (b := 76) (by have := hc 0 q; omega) (by decide)
    by_cases w : c 0 = 76
    · rw [if_pos (h76.mpr w), show fX4_accept u 1 = some (aAcc u true) from acc_s u4 true, Option.bind_some]
      exact start true (fun _ => q) (by show (.inr (0 + 1) : Nat ⊕ Nat) = _; unfold pS; rw [if_pos ⟨q, by omega, by omega⟩]; rfl)
    · rw [if_neg (fun z => w (h76.mp z)), show fX4_accept u 0 = some (aAcc u false) from acc_s u4 false, Option.bind_some]
      exact start false (fun z => by cases z) (by show (.inl 0 : Nat ⊕ Nat) = _; unfold pS; rw [if_neg (by omega)]; rfl)
  · rw [if_pos (show nI len ≤ 0 from (nI_le0 (by omega)).mpr (by omega)), show fX4_accept u 0 = some (aAcc u false) from acc_s u4 false, Option.bind_some]
    exact start false (fun z => by cases z) (by show (.inl 0 : Nat ⊕ Nat) = _; unfold pS; rw [if_neg (fun z => q z.1)]; rfl)
/-- after an error the reading is at its end -/
theorem r139 (h : TR c len r0 r x lo) : fX4_readText_L139 r = some ((match x with | .inl e => nI e | .inr _ => -9), r) := by
  unfold fX4_readText_L139
  rw [h.2.2.1.1]
  cases x with
  | inl e =>
    rw [if_pos (show bI (pOk (.inl e : Nat ⊕ Nat)) = 0 from rfl), h.2.2.1.2.1]
    rfl
  | inr q => rw [if_neg (show ¬ bI (pOk (.inr q : Nat ⊕ Nat)) = 0 by show ¬ bI true = 0; decide)]
theorem pD_lt {lo hi : Nat} {d z : Nat} (h : pD c len lo hi p = .inr (d, z)) : p < z := by
  unfold pD at h
  by_cases q : p < len ∧ 48 + lo ≤ c p ∧ c p ≤ 48 + hi
  · rw [if_pos q] at h; cases h; omega
  · rw [if_neg q] at h; cases h
theorem pT_lt {most : Nat} {d z : Nat} (h : pT c len most p = .inr (d, z)) : p < z := by
  obtain ⟨a, z1, e1, h⟩ := pB_inv h
  obtain ⟨b, z2, e2, h⟩ := pB_inv h
  cases h
  exact Nat.lt_trans (pD_lt e1) (pD_lt e2)
theorem pC_lt {a : Cm} {z : Nat} (h : pC c len p = .inr (a, z)) : p < z := by
  have one : ∀ {y : PR Nat} {g : Nat → Cm}, (∀ b w, y = .inr (b, w) → p + 1 < w) → (pB y fun b w => .inr (g b, w)) = .inr (a, z) → p < z := fun hy q => by
    obtain ⟨b, w, e1, q⟩ := pB_inv q
    have h1 := hy b w e1
    cases q
    omega
  have two : ∀ {y : PR Nat} {f : Nat → PR Nat} {g : Nat → Nat → Cm}, (∀ b w, y = .inr (b, w) → p + 1 < w) → (∀ w0 b w, f w0 = .inr (b, w) → w0 < w) → (pB y fun v w => pB (f w) fun b w2 => .inr (g v b, w2)) = .inr (a, z) → p < z := fun hy hf q => by
    obtain ⟨b, w, e1, q⟩ := pB_inv q
    obtain ⟨b2, w2, e2, q⟩ := pB_inv q
    have h1 := hy b w e1
    have h2 := hf w b2 w2 e2
    cases q
    omega
  unfold pC at h
  by_cases hp : p < len
  · rw [if_pos hp] at h
    by_cases q : c p = 116
    · rw [if_pos q] at h
      exact two (fun b w e => pD_lt e) (fun w0 b w e => pT_lt e) h
    rw [if_neg q] at h
    by_cases q : c p = 112
    · rw [if_pos q] at h
      exact one (fun b w e => pT_lt e) h
    rw [if_neg q] at h
    by_cases q : c p = 98
    · rw [if_pos q] at h
      exact one (fun b w e => pT_lt e) h
    rw [if_neg q] at h
    by_cases q : c p = 111
    · rw [if_pos q] at h
      exact two (fun b w e => pD_lt e) (fun w0 b w e => pD_lt e) h
    rw [if_neg q] at h
    by_cases q : c p = 105
    · rw [if_pos q] at h
      exact two (fun b w e => pD_lt e) (fun w0 b w e => pD_lt e) h
    rw [if_neg q] at h
    by_cases q : c p = 114
    · rw [if_pos q] at h
      exact one (fun b w e => pD_lt e) h
    rw [if_neg q] at h
    by_cases q : c p = 110
    · rw [if_pos q] at h
      exact one (fun b w e => pD_lt e) h
    rw [if_neg q] at h
    cases h
  · rw [if_neg hp] at h
    cases h
theorem rLp (hl : len ≤ 120) (hc : ∀ i, i < len → c i ≤ 255) : ∀ (m f p lo : Nat) (r : gS) (A : AS) (T : Nat), len ≤ p + m → m < f → TR c len r0 r (.inr p) lo → RB (r 2) A → Good T A → ∃ r' A' lo' x', fX4_readText_L114 f r = some (pE (pL c len m p), r') ∧ RB (r' 2) A' ∧ Good (T + 27 * m) A' ∧ TR c len r0 r' x' lo' ∧ ∀ l, pL c len m p = .inr l → A' = (cRun A l).1 ∧ lo' = lo + (cRun A l).2 := by
  intro m
  induction m with
  | zero =>
    intro f p lo r A T hm hf h hB hG
    obtain ⟨f, rfl⟩ : ∃ z, f = z + 1 := ⟨f - 1, by omega⟩
    simp only [fX4_readText_L114]
    rw [h.2.2.1.1, if_neg (show ¬ bI (pOk (.inr p : Nat ⊕ Nat)) = 0 by show ¬ bI true = 0; decide), h.1.1, show r 0 3 = nI p from h.2.2.1.2.1, if_pos (nI_le (show len ≤ p by omega) (by have : p ≤ len := h.2.2.1.2.2; omega)), r139 h, pL_0 (by omega)]
    exact ⟨r, A, lo, _, rfl, hB, hG, h, fun l w => by cases w; exact ⟨rfl, rfl⟩⟩
  | succ m ih =>
    intro f p lo r A T hm hf h hB hG
    obtain ⟨f, rfl⟩ : ∃ z, f = z + 1 := ⟨f - 1, by omega⟩
    simp only [fX4_readText_L114]
    have hp : p ≤ len := h.2.2.1.2.2
    rw [h.2.2.1.1, if_neg (show ¬ bI (pOk (.inr p : Nat ⊕ Nat)) = 0 by show ¬ bI true = 0; decide), h.1.1, show r 0 3 = nI p from h.2.2.1.2.1]
    by_cases q : len ≤ p
    · rw [if_pos (nI_le (show len ≤ p from q) (by omega)), r139 h, pL_0 q]
      exact ⟨r, A, lo, _, rfl, hB, Good_mono hG (by omega), h, fun l w => by cases w; exact ⟨rfl, rfl⟩⟩
    · rw [if_neg (nI_ge (show p < len by omega) (by omega))]
      obtain ⟨r1, A1, lo1, k1, k2, k3, k4, k5⟩ := rCm hl hc h (by omega) hB hG
      rw [k1, Option.bind_some]
      rcases hC : pC c len p with e | ⟨a, z⟩
      · rw [hC] at k4
        obtain ⟨f, rfl⟩ : ∃ z, f = z + 1 := ⟨f - 1, by omega⟩
        simp only [fX4_readText_L114]
        have k4' : TR c len r0 r1 (.inl e) lo1 := k4
        rw [k4'.2.2.1.1, if_pos (show bI (pOk (.inl e : Nat ⊕ Nat)) = 0 from rfl), r139 k4', pL_e q hC]
        exact ⟨r1, A1, lo1, _, rfl, k2, Good_mono k3 (by omega), k4', fun l w => by cases w⟩
      · rw [hC] at k4
        have k4' : TR c len r0 r1 (.inr z) lo1 := k4
        obtain ⟨e1, e2⟩ := k5 a z hC
        have hz : p < z := pC_lt hC
        obtain ⟨r2, A2, lo2, x2, j1, j2, j3, j4, j5⟩ := ih f z lo1 r1 A1 (T + 27) (by omega) (by omega) k4' k2 k3
        rw [j1]
        rcases hL : pL c len m z with e | l
        · rw [pL_l q hC hL]
          exact ⟨r2, A2, lo2, x2, rfl, j2, Good_mono j3 (by omega), j4, fun l w => by cases w⟩
        · rw [pL_r q hC hL]
          refine ⟨r2, A2, lo2, x2, rfl, j2, Good_mono j3 (by omega), j4, fun l' w => ?_⟩
          cases w
          obtain ⟨v1, v2⟩ := j5 l hL
          subst e1
          refine ⟨v1, ?_⟩
          rw [v2, e2]
          simp only [cRun]
          omega
theorem rTx (hl : len ≤ 120) (hc : ∀ i, i < len → c i ≤ 255) (h1 : r 0 2 = nI len) (h2 : ∀ i, i < len → r 1 i = nI (c i)) : ∃ r' A' lo' x', fX4_readText r = some (pE (pX c len), r') ∧ RB (r' 2) A' ∧ Good 3240 A' ∧ TR c len r r' x' lo' ∧ ∀ a l, pX c len = .inr (a, l) → A' = (cRun (aHdr a) l).1 ∧ lo' = (cRun (aHdr a) l).2 := by
  obtain ⟨r1, A1, k1, k2, k3, k4, k5⟩ := rHd hl hc h1 h2
  rw [k1]
  unfold pX
  rcases hH : pH c len with e | ⟨a, z⟩
  · rw [hH] at k4
    have k4' : TR c len r r1 (.inl e) 0 := k4
    obtain ⟨f, hf⟩ : ∃ f, gFuel = f + 1 := ⟨4999, rfl⟩
    rw [hf]
    simp only [fX4_readText_L114]
    rw [k4'.2.2.1.1, if_pos (show bI (pOk (.inl e : Nat ⊕ Nat)) = 0 from rfl), r139 k4']
    exact ⟨r1, A1, 0, _, rfl, k2, Good_mono k3 (by omega), k4', fun a l w => by cases w⟩
  · rw [hH] at k4
    have k4' : TR c len r r1 (.inr z) 0 := k4
    have e1 := k5 a z hH
    obtain ⟨r2, A2, lo2, x2, j1, j2, j3, j4, j5⟩ := rLp hl hc 120 gFuel z 0 r1 A1 0 (by omega) (by decide) k4' k2 k3
    rw [j1]
    simp only []
    rcases hL : pL c len 120 z with e | l
    · exact ⟨r2, A2, lo2, x2, rfl, j2, Good_mono j3 (by omega), j4, fun a l w => by cases w⟩
    · refine ⟨r2, A2, lo2, x2, rfl, j2, Good_mono j3 (by omega), j4, fun a' l' w => ?_⟩
      cases w
      obtain ⟨v1, v2⟩ := j5 l hL
      subst e1
      exact ⟨v1, by rw [v2, Nat.zero_add]⟩
/-- the chars as numbers -/
theorem Tx_c {t : gS} (h : Tx t r) : ∃ (len : Nat) (c : Nat → Nat), len ≤ 120 ∧ (∀ i, i < len → c i ≤ 255) ∧ TX c len t ∧ r 0 2 = nI len ∧ ∀ i, i < len → r 1 i = nI (c i) := by
  obtain ⟨len, l1, l2, l3, l4⟩ := h
  refine ⟨len, fun i => (t 1 i).toNatClampNeg, l1, fun i hi => ?_, ⟨l2, fun i hi => ?_⟩, l3, fun i hi => ?_⟩
  all_goals
    obtain ⟨c, c1, c2, c3⟩ := l4 i hi
    have e : (t 1 i).toNatClampNeg = c := by rw [c2, cl_nI (by omega)]
    simp only [e]
  · exact c1
  · exact c2
  · exact c3
theorem Tx_of {t : gS} (hl : len ≤ 120) (hc : ∀ i, i < len → c i ≤ 255) (h : TX c len t) (h1 : r 0 2 = nI len) (h2 : ∀ i, i < len → r 1 i = nI (c i)) : Tx t r := ⟨len, hl, h.1, h1, fun i hi => ⟨c i, hc i hi, h.2 i hi, h2 i hi⟩⟩
theorem errorPosition_step (h : TopA T s r A) : ∃ v s' r', fX3_errorPosition s = some (v, s') ∧ fX4_errorPosition r = some (v, r') ∧ Top T s' r' := by
  obtain ⟨hG, hA, hB, ⟨n, Ar, c1, c2, c3⟩, ⟨As, c4⟩, hT⟩ := id h
  obtain ⟨len, c, hl, hc, t1, t2, t3⟩ := Tx_c hT
  obtain ⟨t', a1, a2, -⟩ := ferr_s hl hc t1
  obtain ⟨r', A', lo', x', b1, b2, b3, b4, -⟩ := rTx (r := st2 r 0 0 0) hl hc (by rw [st_ne (by decide)]; exact t2) (fun i hi => by rw [st_ne (by omega)]; exact t3 i hi)
  have f : ∀ k j, k ≠ 2 → ¬ (k = 0 ∧ 3 ≤ j ∧ j ≤ 5) → ¬ (k = 0 ∧ j = 0) → r' k j = r k j := fun k j x y z => by rw [b4.2.2.2 k j x y, st_ne (by omega)]
  have fk : ∀ k, k ≠ 0 → k ≠ 2 → r' k = r k := fun k x y => funext fun j => f k j y (by omega) (by omega)
  refine ⟨pE (pX c len), (s.1, t', s.2.2), r', ?_, ?_, A, hG, hA, by rw [fk 3 (by decide) (by decide)]; exact hB, ⟨n, Ar, c1, by rw [f 0 10 (by decide) (by omega) (by omega)]; exact c2, by rw [fk 5 (by decide) (by decide)]; exact c3⟩, ⟨As, by rw [fk 6 (by decide) (by decide), fk 7 (by decide) (by decide)]; exact c4⟩, ?_⟩
  · unfold fX3_errorPosition
    rw [a1, Option.bind_some, gl_to rfl]
  · unfold fX4_errorPosition
    rw [gl_to rfl, b1, Option.bind_some]
  · exact Tx_of hl hc a2 (by rw [f 0 2 (by decide) (by omega) (by omega)]; exact t2) (fun i hi => by rw [fk 1 (by decide) (by decide)]; exact t3 i hi)
end TW
