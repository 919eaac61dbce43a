section TQ
variable {c : Nat → Nat} {len p lo : Nat} {T : Nat} {A : AS} {r r0 : gS} {x : Nat ⊕ Nat}
/-- 'goes', then the deed -/
theorem goT (h : TR c len r0 r x lo) (hB : RB (r 2) A) (hG : Good T A) (can : Bool) {k : gS → Option gS} {B : AS} (hk : ∀ r2 : gS, r2 2 = r 2 → can = true → ∃ row', k r2 = some (stf r2 2 row') ∧ RB row' B ∧ Good (T + 27) B) : ∃ r' A' lo', ((fX4_goes r (bI can)).bind fun r4 => if r4.1 = 0 then some r4.2 else k r4.2) = some r' ∧ RB (r' 2) A' ∧ Good (T + 27) A' ∧ TR c len r0 r' x lo' ∧ (pOk x = true → A' = (if can = true then B else A) ∧ lo' = lo + if can = true then 0 else 1) := by
  obtain ⟨r2, k1, k2, k3⟩ := rGo h can
  rw [k1, Option.bind_some]
  cases hx : pOk x with
  | false =>
    rw [hx] at k3
    rw [if_pos (show bI (false && can) = 0 from rfl)]
    exact ⟨r2, A, _, rfl, by rw [k2]; exact hB, Good_mono hG (by omega), k3, fun z => by cases z⟩
  | true =>
    rw [hx] at k3
    cases can with
    | false =>
      rw [if_pos (show bI (true && false) = 0 from rfl)]
      exact ⟨r2, A, _, rfl, by rw [k2]; exact hB, Good_mono hG (by omega), k3, fun _ => ⟨rfl, rfl⟩⟩
    | true =>
      rw [if_neg (show ¬ bI (true && true) = 0 by decide)]
      obtain ⟨row', j1, j2, j3⟩ := hk r2 k2 rfl
      exact ⟨_, B, _, j1, by rw [sf_eq]; exact j2, j3, TR_row k3 row', fun _ => ⟨rfl, rfl⟩⟩
theorem pP_ok {α : Type} {y : PR α} {a : α} {z : Nat} (h : y = .inr (a, z)) : pOk (pP y) = true := by subst h; rfl
theorem rB16 (hl : len ≤ 120) (hc : ∀ i, i < len → c i ≤ 255) (h : TR c len r0 r x lo) (hB : RB (r 2) A) (hG : Good T A) {k v : Nat} (hk : k = 116 ∨ k = 112 ∨ k = 98) (hv : v < 6) : ∃ r' A' lo' b, fX4_readBooks_L16 r (nI k) (nI v) = some r' ∧ RB (r' 2) A' ∧ Good (T + 27) A' ∧ TR c len r0 r' (pP (pA x (pT c len 19))) lo' ∧ ∀ b' z, pA x (pT c len 19) = .inr (b', z) → b = b' ∧ A' = (cDo A (k, v, b)).1 ∧ lo' = lo + if (cDo A (k, v, b)).2 = true then 0 else 1 := by
  obtain ⟨b, r1, k1, k2, k3, k4, k5⟩ := rTw hl hc h (most := 19) (by decide)
  have hb : b < 20 := by omega
  have hB1 : RB (r1 2) A := by rw [k3]; exact hB
  unfold fX4_readBooks_L16
  rw [show fX4_two r 19 = some (nI b, r1) from k1, Option.bind_some]
  rcases hk with rfl | rfl | rfl
  · rw [if_pos (show nI 116 = (116 : Int32) from rfl), canTake_spec hB1 hv hb, Option.bind_some]
    simp only [gl, sf_self]
    obtain ⟨r', A', lo', j1, j2, j3, j4, j5⟩ := goT k4 hB1 hG (aCanTake A v b) (k := fun r4 => (fX4_bookAt (nI b) (0 : Int32)).bind fun r5 => (gd (inb r5.1 233) (some (st2 r4 2 r5.1.toNatClampNeg (nI v + (1 : Int32)))))) (B := aS A 0 b (nI (v + 1))) (fun r2 e _ => by
      simp (disch := omega) only [bookAt_0, Option.bind_some, gd_in, cl_nI, nI_1]
      rw [st2_stf, e]
      exact ⟨_, rfl, RB_bk hB1 (qlen_of hG.1) hG.1.ql (k := 0) (by omega) hb _, Good_mono ⟨Inv_hold hG.1 (by omega), InvP_aS hG.2 (by decide) (by decide)⟩ (by omega)⟩)
    exact ⟨r', A', lo', b, j1, j2, j3, j4, fun b' z q => ⟨k5 b' z q, (j5 (pP_ok q)).1, (j5 (pP_ok q)).2⟩⟩
  · rw [if_neg (by decide), if_pos (show nI 112 = (112 : Int32) from rfl), canPutBack_spec hB1 hG.1 hb, Option.bind_some]
    simp only [gl, sf_self]
    obtain ⟨r', A', lo', j1, j2, j3, j4, j5⟩ := goT k4 hB1 hG (aCanPut A b) (k := fun r4 => (fX4_bookAt (nI b) (0 : Int32)).bind fun r11 => (gd (inb r11.1 233) (some (st2 r4 2 r11.1.toNatClampNeg (0 : Int32))))) (B := aS A 0 b 0) (fun r2 e _ => by
      simp (disch := omega) only [bookAt_0, Option.bind_some, gd_in, cl_nI]
      rw [st2_stf, e]
      exact ⟨_, rfl, RB_bk hB1 (qlen_of hG.1) hG.1.ql (k := 0) (by omega) hb _, Good_mono ⟨Inv_hold (k := 0) hG.1 (by omega), InvP_aS hG.2 (by decide) (by decide)⟩ (by omega)⟩)
    exact ⟨r', A', lo', b, j1, j2, j3, j4, fun b' z q => ⟨k5 b' z q, (j5 (pP_ok q)).1, (j5 (pP_ok q)).2⟩⟩
  · rw [if_neg (by decide), if_neg (by decide), isBookInside_spec hB1 hG.1 hb, Option.bind_some]
    simp only [gl, sf_self]
    obtain ⟨r', A', lo', j1, j2, j3, j4, j5⟩ := goT k4 hB1 hG (aBookIn A b) (k := fun r4 => (fX4_bookAt (nI b) (1 : Int32)).bind fun r16 => ((fX4_bookAt (nI b) (1 : Int32)).bind fun r17 => (gd (inb r17.1 233) (gd (inb r16.1 233) (some (st2 r4 2 r16.1.toNatClampNeg ((1 : Int32) - (r4 2 r17.1.toNatClampNeg)))))))) (B := aS A 1 b (1 - A.1 1 b)) (fun r2 e _ => by
      simp (disch := omega) only [bookAt_1, Option.bind_some, gd_in, cl_nI]
      rw [st2_stf, e, hB1.bk (k := 1) (by omega) hb]
      exact ⟨_, rfl, RB_bk hB1 (qlen_of hG.1) hG.1.ql (k := 1) (by omega) hb _, Good_mono ⟨Inv_bor hG.1 (bor_flip hG.1 hb), InvP_aS hG.2 (by decide) (by decide)⟩ (by omega)⟩)
    exact ⟨r', A', lo', b, j1, j2, j3, j4, fun b' z q => ⟨k5 b' z q, (j5 (pP_ok q)).1, (j5 (pP_ok q)).2⟩⟩
theorem comp2P {α β γ : Type} {y : PR α} {f : Nat → PR β} {g : α → β → γ} : pP (pB y fun a z => pB (f z) fun b z2 => (.inr (g a b, z2) : PR γ)) = pP (pA (pP y) f) := by
  rcases y with e | ⟨a, z⟩
  · rfl
  · show pP (pB (f z) fun b z2 => (.inr (g a b, z2) : PR γ)) = pP (f z)
    rcases f z with e | ⟨b, z2⟩ <;> rfl
theorem pB_inv {α β : Type} {y : PR α} {k : α → Nat → PR β} {w : β × Nat} (h : pB y k = .inr w) : ∃ a z, y = .inr (a, z) ∧ k a z = .inr w := by
  rcases y with e | ⟨a, z⟩
  · cases h
  · exact ⟨a, z, rfl, h⟩
theorem comp1P {α γ : Type} {y : PR α} {g : α → γ} : pP (pB y fun a z => (.inr (g a, z) : PR γ)) = pP y := by
  rcases y with e | ⟨a, z⟩ <;> rfl
theorem rWay (hl : len ≤ 120) (hc : ∀ i, i < len → c i ≤ 255) (h : TR c len r0 r x lo) (hB : RB (r 2) A) (hG : Good T A) {k v : Nat} (hk : k = 111 ∨ k = 105) (hv : v < 6) : ∃ r' A' lo' g, ((fX4_digit r (0 : Int32) (2 : Int32)).bind fun r14 => (if nI k = (111 : Int32) then (fX4_readWays_L62 r14.2 (nI k) (nI v) r14.1 (nI v) (1 : Int32)) else (fX4_readWays_L62 r14.2 (nI k) (nI v) r14.1 (nI v) (0 : Int32)))) = some r' ∧ RB (r' 2) A' ∧ Good (T + 27) A' ∧ TR c len r0 r' (pP (pA x (pD c len 0 2))) lo' ∧ ∀ g' z, pA x (pD c len 0 2) = .inr (g', z) → g = g' ∧ A' = (cDo A (k, v, g)).1 ∧ lo' = lo + if (cDo A (k, v, g)).2 = true then 0 else 1 := by
  obtain ⟨g, r1, k1, ⟨-, k2⟩, k3, k4, k5⟩ := rDg hl hc h (l := 0) (hi := 2) (by decide) (by decide)
  have hg : g < 3 := by omega
  have hB1 : RB (r1 2) A := by rw [k3]; exact hB
  rw [show fX4_digit r 0 2 = some (nI g, r1) from k1, Option.bind_some]
  rcases hk with rfl | rfl
  · rw [if_pos (show nI 111 = (111 : Int32) from rfl)]
    unfold fX4_readWays_L62
    simp only []
    rw [canWalk_spec hB1 hv, Option.bind_some]
    simp only [gl, sf_self]
    obtain ⟨r', A', lo', j1, j2, j3, j4, j5⟩ := goT k4 hB1 hG (aCanWalk A v 1) (k := fun r3 => if nI 111 = (111 : Int32) then ((fX4_walkIn (r3 2) (nI v) (nI g) (1 : Int32)).bind fun r4 => some (stf r3 2 r4.2)) else ((fX4_walkIn (r3 2) (nI v) (nI g) (0 : Int32)).bind fun r6 => some (stf r3 2 r6.2))) (B := aWalk A v (nI g) true) (fun r2 e _ => by
      obtain ⟨w, m1, m2, m3⟩ := walkIn_spec hB1 hG.1 hv (nI g) true
      have m1' : fX4_walkIn (r2 2) (nI v) (nI g) 1 = some w := by rw [e]; exact m1
      rw [if_pos (show nI 111 = (111 : Int32) from rfl), m1', Option.bind_some]
      exact ⟨_, rfl, m3, Good_mono ⟨Inv_walk hG.1 hg true, InvP_walk hG.2 _ _ true⟩ (by omega)⟩)
    exact ⟨r', A', lo', g, j1, j2, j3, j4, fun b' z q => ⟨k5 b' z q, (j5 (pP_ok q)).1, (j5 (pP_ok q)).2⟩⟩
  · rw [if_neg (by decide)]
    unfold fX4_readWays_L62
    simp only []
    rw [canWalk_spec hB1 hv, Option.bind_some]
    simp only [gl, sf_self]
    obtain ⟨r', A', lo', j1, j2, j3, j4, j5⟩ := goT k4 hB1 hG (aCanWalk A v 0) (k := fun r3 => if nI 105 = (111 : Int32) then ((fX4_walkIn (r3 2) (nI v) (nI g) (1 : Int32)).bind fun r4 => some (stf r3 2 r4.2)) else ((fX4_walkIn (r3 2) (nI v) (nI g) (0 : Int32)).bind fun r6 => some (stf r3 2 r6.2))) (B := aWalk A v (nI g) false) (fun r2 e _ => by
      obtain ⟨w, m1, m2, m3⟩ := walkIn_spec hB1 hG.1 hv (nI g) false
      have m1' : fX4_walkIn (r2 2) (nI v) (nI g) 0 = some w := by rw [e]; exact m1
      rw [if_neg (show ¬ nI 105 = (111 : Int32) by decide), m1', Option.bind_some]
      exact ⟨_, rfl, m3, Good_mono ⟨Inv_walk hG.1 hg false, InvP_walk hG.2 _ _ false⟩ (by omega)⟩)
    exact ⟨r', A', lo', g, j1, j2, j3, j4, fun b' z q => ⟨k5 b' z q, (j5 (pP_ok q)).1, (j5 (pP_ok q)).2⟩⟩
theorem rCm (hl : len ≤ 120) (hc : ∀ i, i < len → c i ≤ 255) (h : TR c len r0 r (.inr p) lo) (hp : p < len) (hB : RB (r 2) A) (hG : Good T A) : ∃ r' A' lo', fX4_readCommand r = some r' ∧ RB (r' 2) A' ∧ Good (T + 27) A' ∧ TR c len r0 r' (pP (pC c len p)) lo' ∧ ∀ a z, pC c len p = .inr (a, z) → A' = (cDo A a).1 ∧ lo' = lo + if (cDo A a).2 = true then 0 else 1 := by
  obtain ⟨⟨h1, h2⟩, h3, ⟨h4, h5, h6⟩, h7⟩ := id h
  have hcp := hc p hp
  have e3 : r 0 3 = nI p := h5
  have e1 : r 1 p = nI (c p) := h2 p hp
  have acc : ∀ b : Bool, fX4_accept r (bI b) = some (aAcc r b) := fun b => acc_s (g := true) h4 b
  have a4 : ∀ b : Bool, (aAcc r b) 0 4 = bI b := fun b => by
    unfold aAcc
    rw [st_ne (by decide), st_eq rfl rfl]
  have hB1 : RB ((aAcc r true) 2) A := by rw [aAcc_2]; exact hB
  have t1 : TR c len r0 (aAcc r true) (.inr (p + 1)) lo := TR_acc hl h (b := true) (fun _ => hp)
  unfold fX4_readCommand
  rw [e3, gd_in (by omega) (by decide), cl_nI (by omega), e1]
  simp only [gl]
  obtain ⟨k, hk⟩ : ∃ k, k = c p := ⟨_, rfl⟩
  unfold pC
  rw [if_pos hp, ← hk]
  have hkl : k < 256 := by omega
  by_cases kk : k = 116 ∨ k = 112 ∨ k = 98 ∨ k = 111 ∨ k = 105 ∨ k = 114 ∨ k = 110
  · have L58 : (if nI k = (116 : Int32) then (fX4_readCommand_L58 r (nI k) (1 : Int32)) else (if nI k = (112 : Int32) then (fX4_readCommand_L58 r (nI k) (1 : Int32)) else (if nI k = (98 : Int32) then (fX4_readCommand_L58 r (nI k) (1 : Int32)) else (if nI k = (111 : Int32) then (fX4_readCommand_L58 r (nI k) (1 : Int32)) else (if nI k = (105 : Int32) then (fX4_readCommand_L58 r (nI k) (1 : Int32)) else (if nI k = (114 : Int32) then (fX4_readCommand_L58 r (nI k) (1 : Int32)) else (if nI k = (110 : Int32) then (fX4_readCommand_L58 r (nI k) (1 : Int32)) else (fX4_readCommand_L58 r (nI k) (0 : Int32))))))))) = fX4_readCommand_L58 r (nI k) (bI true) := by
      rcases kk with rfl | rfl | rfl | rfl | rfl | rfl | rfl <;> rfl
    rw [L58]
    unfold fX4_readCommand_L58
    rw [acc true, Option.bind_some, a4, if_neg (show ¬ bI true = 0 by decide)]
    rcases kk with rfl | rfl | rfl | rfl | rfl | rfl | rfl
    · -- take
      rw [if_neg (by decide), if_pos (show nI 116 = (116 : Int32) from rfl), if_pos rfl]
      unfold fX4_readBooks
      rw [if_pos (show nI 116 = (116 : Int32) from rfl)]
      obtain ⟨v, r1, k1, ⟨-, k2⟩, k3, k4, k5⟩ := rDg hl hc t1 (l := 0) (hi := 5) (by decide) (by decide)
      rw [show fX4_digit (aAcc r true) 0 5 = some (nI v, r1) from k1, Option.bind_some]
      obtain ⟨r', A', lo', b, j1, j2, j3, j4, j5⟩ := rB16 hl hc k4 (by rw [k3]; exact hB1) hG (k := 116) (v := v) (by omega) (by omega)
      refine ⟨r', A', lo', by rw [j1]; rfl, j2, j3, by rw [comp2P]; exact j4, fun a z q => ?_⟩
      obtain ⟨v', z1, q1, q2⟩ := pB_inv q
      obtain ⟨b', z2, q3, q4⟩ := pB_inv q2
      cases q4
      have ev := k5 v' z1 q1
      subst ev
      have hx : pP (pA (.inr (p + 1)) (pD c len 0 5)) = .inr z1 := by show pP (pD c len 0 5 (p + 1)) = _; rw [q1]; rfl
      rw [hx] at j5
      obtain ⟨eb, w1, w2⟩ := j5 b' z q3
      subst eb
      exact ⟨w1, w2⟩
    · -- put back
      rw [if_neg (by decide), if_neg (by decide), if_pos (show nI 112 = (112 : Int32) from rfl), if_neg (by decide), if_pos rfl]
      unfold fX4_readBooks
      rw [if_neg (by decide)]
      obtain ⟨r', A', lo', b, j1, j2, j3, j4, j5⟩ := rB16 hl hc t1 hB1 hG (k := 112) (v := 0) (by omega) (by omega)
      refine ⟨r', A', lo', by rw [show fX4_readBooks_L16 (aAcc r true) (nI 112) 0 = some r' from j1]; rfl, j2, j3, by rw [comp1P]; exact j4, fun a z q => ?_⟩
      obtain ⟨b', z1, q1, q2⟩ := pB_inv q
      cases q2
      obtain ⟨eb, w1, w2⟩ := j5 b' z q1
      subst eb
      exact ⟨w1, w2⟩
    · -- borrow or bring back
      rw [if_neg (by decide), if_neg (by decide), if_neg (by decide), if_pos (show nI 98 = (98 : Int32) from rfl), if_neg (by decide), if_neg (by decide), if_pos rfl]
      unfold fX4_readBooks
      rw [if_neg (by decide)]
      obtain ⟨r', A', lo', b, j1, j2, j3, j4, j5⟩ := rB16 hl hc t1 hB1 hG (k := 98) (v := 0) (by omega) (by omega)
      refine ⟨r', A', lo', by rw [show fX4_readBooks_L16 (aAcc r true) (nI 98) 0 = some r' from j1]; rfl, j2, j3, by rw [comp1P]; exact j4, fun a z q => ?_⟩
      obtain ⟨b', z1, q1, q2⟩ := pB_inv q
      cases q2
      obtain ⟨eb, w1, w2⟩ := j5 b' z q1
      subst eb
      exact ⟨w1, w2⟩
    · -- out
      rw [if_neg (by decide), if_neg (by decide), if_neg (by decide), if_neg (by decide), if_neg (by decide), if_neg (by decide), if_neg (by decide), if_pos rfl]
      unfold fX4_readWays
      obtain ⟨v, r1, k1, ⟨-, k2⟩, k3, k4, k5⟩ := rDg hl hc t1 (l := 0) (hi := 5) (by decide) (by decide)
      rw [show fX4_digit (aAcc r true) 0 5 = some (nI v, r1) from k1, Option.bind_some, if_neg (by decide)]
      obtain ⟨r', A', lo', g, j1, j2, j3, j4, j5⟩ := rWay hl hc k4 (by rw [k3]; exact hB1) hG (k := 111) (v := v) (by omega) (by omega)
      refine ⟨r', A', lo', by rw [j1]; rfl, j2, j3, by rw [comp2P]; exact j4, fun a z q => ?_⟩
      obtain ⟨v', z1, q1, q2⟩ := pB_inv q
      obtain ⟨b', z2, q3, q4⟩ := pB_inv q2
      cases q4
      have ev := k5 v' z1 q1
      subst ev
      have hx : pP (pA (.inr (p + 1)) (pD c len 0 5)) = .inr z1 := by show pP (pD c len 0 5 (p + 1)) = _; rw [q1]; rfl
      rw [hx] at j5
      obtain ⟨eb, w1, w2⟩ := j5 b' z q3
      subst eb
      exact ⟨w1, w2⟩
    · -- in
      rw [if_neg (by decide), if_neg (by decide), if_neg (by decide), if_neg (by decide), if_neg (by decide), if_neg (by decide), if_neg (by decide), if_neg (by decide), if_pos rfl]
      unfold fX4_readWays
      obtain ⟨v, r1, k1, ⟨-, k2⟩, k3, k4, k5⟩ := rDg hl hc t1 (l := 0) (hi := 5) (by decide) (by decide)
      rw [show fX4_digit (aAcc r true) 0 5 = some (nI v, r1) from k1, Option.bind_some, if_neg (by decide)]
      obtain ⟨r', A', lo', g, j1, j2, j3, j4, j5⟩ := rWay hl hc k4 (by rw [k3]; exact hB1) hG (k := 105) (v := v) (by omega) (by omega)
      refine ⟨r', A', lo', by rw [j1]; rfl, j2, j3, by rw [comp2P]; exact j4, fun a z q => ?_⟩
      obtain ⟨v', z1, q1, q2⟩ := pB_inv q
      obtain ⟨b', z2, q3, q4⟩ := pB_inv q2
      cases q4
      have ev := k5 v' z1 q1
      subst ev
      have hx : pP (pA (.inr (p + 1)) (pD c len 0 5)) = .inr z1 := by show pP (pD c len 0 5 (p + 1)) = _; rw [q1]; rfl
      rw [hx] at j5
      obtain ⟨eb, w1, w2⟩ := j5 b' z q3
      subst eb
      exact ⟨w1, w2⟩
    · -- turn
      rw [if_neg (by decide), if_neg (by decide), if_neg (by decide), if_neg (by decide), if_neg (by decide), if_neg (by decide), if_neg (by decide), if_neg (by decide), if_neg (by decide), if_pos rfl]
      unfold fX4_readWays
      obtain ⟨v, r1, k1, ⟨-, k2⟩, k3, k4, k5⟩ := rDg hl hc t1 (l := 0) (hi := 5) (by decide) (by decide)
      have hv : v < 6 := by omega
      have hB2 : RB (r1 2) A := by rw [k3]; exact hB1
      rw [show fX4_digit (aAcc r true) 0 5 = some (nI v, r1) from k1, Option.bind_some, if_pos (show nI 114 = (114 : Int32) from rfl)]
      simp only []
      rw [isAtGate_spec hB2 hv, Option.bind_some]
      simp only [gl, sf_self]
      obtain ⟨r', A', lo', j1, j2, j3, j4, j5⟩ := goT k4 hB2 hG (decide (A.1 5 v = 1)) (k := fun r11 => (fX4_turnIn (r11 2) (nI v)).bind fun r12 => some (stf r11 2 r12.2)) (B := aTurn A v) (fun r2 e q => by
        obtain ⟨w, m1, m2, m3⟩ := turnIn_spec hB2 hG.1 hv
        have m1' : fX4_turnIn (r2 2) (nI v) = some w := by rw [e]; exact m1
        rw [m1', Option.bind_some]
        exact ⟨_, rfl, m3, Good_mono ⟨Inv_turn hG.1 hv (of_decide_eq_true q), InvP_aS hG.2 (by decide) (by decide)⟩ (by omega)⟩)
      refine ⟨r', A', lo', by rw [j1]; rfl, j2, j3, by rw [comp1P]; exact j4, fun a z q => ?_⟩
      obtain ⟨v', z1, q1, q2⟩ := pB_inv q
      cases q2
      have ev := k5 v' z q1
      subst ev
      have hx : pOk (pP (pA (.inr (p + 1)) (pD c len 0 5))) = true := pP_ok (y := pA (.inr (p + 1)) (pD c len 0 5)) q1
      exact j5 hx
    · -- ticks
      rw [if_pos (show nI 110 = (110 : Int32) from rfl), if_neg (by decide), if_neg (by decide), if_neg (by decide), if_neg (by decide), if_neg (by decide), if_neg (by decide), if_pos rfl]
      obtain ⟨n, r1, k1, ⟨k0, k2⟩, k3, k4, k5⟩ := rDg hl hc t1 (l := 1) (hi := 9) (by decide) (by decide)
      have hB2 : RB (r1 2) A := by rw [k3]; exact hB1
      rw [show fX4_digit (aAcc r true) 1 9 = some (nI n, r1) from k1, Option.bind_some]
      have g4 := k4.2.2.1.1
      simp only [gl]
      rw [comp1P]
      cases hx : pOk (pP (pA (.inr (p + 1)) (pD c len 1 9))) with
      | false =>
        rw [if_pos (show r1 0 4 = 0 by rw [g4, hx]; rfl)]
        obtain ⟨w, m1, ⟨-, m2⟩, m3⟩ := ticksIn_spec hB2 hG.1 (n := 0) (by decide)
        rw [show fX4_ticksIn (r1 2) 0 = some w from m1, Option.bind_some]
        refine ⟨_, A, lo, rfl, by rw [sf_eq]; exact m2, Good_mono hG (by omega), TR_row k4 _, fun a z q => ?_⟩
        obtain ⟨v', z1, q1, q2⟩ := pB_inv q
        have := pP_ok (y := pA (.inr (p + 1)) (pD c len 1 9)) q1
        rw [hx] at this
        cases this
      | true =>
        rw [if_neg (show ¬ r1 0 4 = 0 by rw [g4, hx]; decide)]
        obtain ⟨w, m1, ⟨-, m2⟩, m3⟩ := ticksIn_spec hB2 hG.1 (n := n) (by omega)
        rw [m1, Option.bind_some]
        refine ⟨_, aTicks n A, lo, rfl, by rw [sf_eq]; exact m2, ⟨Inv_mono m3 (by omega), InvP_ticks n A hG.2⟩, TR_row k4 _, fun a z q => ?_⟩
        obtain ⟨v', z1, q1, q2⟩ := pB_inv q
        cases q2
        have ev := k5 v' z q1
        subst ev
        exact ⟨rfl, rfl⟩
  · have L58 : (if nI k = (116 : Int32) then (fX4_readCommand_L58 r (nI k) (1 : Int32)) else (if nI k = (112 : Int32) then (fX4_readCommand_L58 r (nI k) (1 : Int32)) else (if nI k = (98 : Int32) then (fX4_readCommand_L58 r (nI k) (1 : Int32)) else (if nI k = (111 : Int32) then (fX4_readCommand_L58 r (nI k) (1 : Int32)) else (if nI k = (105 : Int32) then (fX4_readCommand_L58 r (nI k) (1 : Int32)) else (if nI k = (114 : Int32) then (fX4_readCommand_L58 r (nI k) (1 : Int32)) else (if nI k = (110 : Int32) then (fX4_readCommand_L58 r (nI k) (1 : Int32)) else (fX4_readCommand_L58 r (nI k) (0 : Int32))))))))) = fX4_readCommand_L58 r (nI k) (bI false) := by
      have n : ∀ j : Nat, j < 2147483648 → ¬ k = j → ¬ nI k = nI j := fun j hj q z => q ((nI_inj (by omega) hj).mp z)
      rw [if_neg (show ¬ nI k = 116 from n 116 (by decide) (by omega)), if_neg (show ¬ nI k = 112 from n 112 (by decide) (by omega)), if_neg (show ¬ nI k = 98 from n 98 (by decide) (by omega)), if_neg (show ¬ nI k = 111 from n 111 (by decide) (by omega)), if_neg (show ¬ nI k = 105 from n 105 (by decide) (by omega)), if_neg (show ¬ nI k = 114 from n 114 (by decide) (by omega)), if_neg (show ¬ nI k = 110 from n 110 (by decide) (by omega))]
      rfl
    rw [L58]
    unfold fX4_readCommand_L58
    rw [acc false, Option.bind_some, a4, if_pos bI_f, if_neg (by omega), if_neg (by omega), if_neg (by omega), if_neg (by omega), if_neg (by omega), if_neg (by omega), if_neg (by omega)]
    exact ⟨aAcc r false, A, lo, rfl, by rw [aAcc_2]; exact hB, Good_mono hG (by omega), TR_acc hl h (b := false) (fun z => by cases z), fun a z q => by cases q⟩
end TQ
