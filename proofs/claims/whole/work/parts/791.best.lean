section BG
variable {T T' : Nat} {A A' : AS} {s s' : ST} {r r' : gS}
def aVal (A : AS) (v g : Nat) : Int32 := aShouts (aTicks 99 (aWalk A v (nI g) true)) - aShouts (aWalk A v (nI g) true)
theorem saw_s (hA : RA s.2.2.1 A) (hG : Good T A) {v g : Nat} (hv : v < 6) (hg : g < 3) (hw : A.1 5 v = 0) : ∃ t, fX3_shoutsAfterWalk s (nI v) (nI g) = some (aVal A v g, (s.1, s.2.1, s.2.2.1, t, s.2.2.2.2)) := by
  obtain ⟨t, a1, a2, -⟩ := copy_s s.2.2.2.1 hA (qlen_of hG.1)
  have hc : (decide (v < 6 ∧ g < 3) && aCanWalk A v (bI true)) = true := by
    rw [decide_eq_true (⟨hv, hg⟩ : v < 6 ∧ g < 3)]
    unfold aCanWalk
    rw [if_neg (show ¬ bI true = 0 by decide), hw]; rfl
  obtain ⟨L, t1, t2, -⟩ := tryWalk_s a2 (v := v) (g := g) (by omega) (by omega) true hc
  have t2' : RA L (aWalk A v (nI g) true) := t2
  obtain ⟨M, m1, ⟨m2, -⟩, -⟩ := passTicks_s t2' (Inv_walk hG.1 hg true) (InvP_walk hG.2 v (nI g) true) (n := 99) (by decide)
  have t1' : fX1_tryWalk t (nI v) (nI g) 1 = some (bI true, L) := t1
  have m1' : fX1_passTicks L 99 = some M := m1
  refine ⟨M.2, ?_⟩
  unfold fX3_shoutsAfterWalk
  rw [a1, Option.bind_some]
  simp only [gl]
  rw [t1', Option.bind_some, m1', Option.bind_some, m2]
  rfl
theorem refW (hB : RB (r 3) A) (hG : Good T A) {v g : Nat} (hv : v < 6) (hg : g < 3) {β : Type} (F : Int32 → gS → Option β) {P : β → Prop} (h : ∀ r', (∀ k, k ≠ 4 → r' k = r k) → ∃ x, F (aVal A v g) r' = some x ∧ P x) : ∃ x, ((fX4_tryIt r).bind fun r1 => ((fX4_walkIn (r1 4) (nI v) (nI g) (1 : Int32)).bind fun r2 => (gl (stf r1 4 r2.2) (fun u3 => ((fX4_ticksIn (u3 4) (99 : Int32)).bind fun r4 => (gl (stf u3 4 r4.2) (fun u5 => F r4.1 u5))))))) = some x ∧ P x := by
  obtain ⟨r1, c1, c2, c3⟩ := tryIt_s hB hG.1
  obtain ⟨w, m1, -, m3⟩ := walkIn_spec c3 hG.1 hv (nI g) true
  obtain ⟨u, n1, ⟨n2, -⟩, -⟩ := ticksIn_spec m3 (Inv_walk hG.1 hg true) (n := 99) (by decide)
  have m1' : fX4_walkIn (r1 4) (nI v) (nI g) 1 = some w := m1
  have n1' : fX4_ticksIn w.2 99 = some u := n1
  refine bd_ex c1 (bd_ex m1' (gl_ex fun u3 h3 => ?_))
  have e4 : u3 4 = w.2 := by rw [h3, sf_eq]
  rw [e4]
  refine bd_ex n1' (gl_ex fun u5 h5 => ?_)
  rw [n2]
  exact h u5 (fun k hk => by rw [h5, sf_ne hk, h3, sf_ne hk, c2 k hk])
theorem bestL {v : Nat} (hv : v < 6) (hG : Good T A) (hw : A.1 5 v = 0) : ∀ (m g f f' : Nat) (s : ST) (r : gS) (x : Nat) (y : Int32), g + m = 3 → x < 3 → m < f → m < f' → RA s.2.2.1 A → RB (r 3) A → ∃ z t r', fX3_bestGate_L36 f s (nI v) (nI x) y (nI g) = some (.inr (z, (s.1, s.2.1, s.2.2.1, t, s.2.2.2.2))) ∧ fX4_bestGate_L44 f' r (nI v) (nI x) y (nI g) = some (z, r') ∧ ∀ k, k ≠ 4 → r' k = r k := by
  intro m
  induction m with
  | zero =>
    intro g f f' s r x y hg hx hf hf' hA hB
    obtain ⟨f, rfl⟩ : ∃ z, f = z + 1 := ⟨f - 1, by omega⟩
    obtain ⟨f', rfl⟩ : ∃ z, f' = z + 1 := ⟨f' - 1, by omega⟩
    simp only [fX3_bestGate_L36, fX4_bestGate_L44]
    rw [if_pos ((lel_3 (by omega)).mpr (by omega)), if_pos ((lel_3 (by omega)).mpr (by omega))]
    exact ⟨nI x, s.2.2.2.1, r, rfl, rfl, fun _ _ => rfl⟩
  | succ m ih =>
    intro g f f' s r x y hgm hx hf hf' hA hB
    obtain ⟨f, rfl⟩ : ∃ z, f = z + 1 := ⟨f - 1, by omega⟩
    obtain ⟨f', rfl⟩ : ∃ z, f' = z + 1 := ⟨f' - 1, by omega⟩
    have hg : g < 3 := by omega
    obtain ⟨t, k1⟩ := saw_s hA hG hv hg hw
    have n9 : ¬ nI x = -9 := (by decide +kernel : ∀ x, x < 3 → ¬ nI x = -9) x hx
    simp only [fX3_bestGate_L36, fX4_bestGate_L44]
    rw [if_neg (fun q => absurd ((lel_3 (by omega)).mp q) (by omega)), if_neg (fun q => absurd ((lel_3 (by omega)).mp q) (by omega)), k1, Option.bind_some]
    have key : ∃ p : Int32 × gS, ((fX4_tryIt r).bind fun r1 => ((fX4_walkIn (r1 4) (nI v) (nI g) (1 : Int32)).bind fun r2 => (gl (stf r1 4 r2.2) (fun u3 => ((fX4_ticksIn (u3 4) (99 : Int32)).bind fun r4 => (gl (stf u3 4 r4.2) (fun u5 => (if nI x = (-9 : Int32) then (fX4_bestGate_L44 f' u5 (nI v) (nI g) r4.1 (nI g + (1 : Int32))) else (if y ≤ r4.1 then (fX4_bestGate_L44 f' u5 (nI v) (nI x) y (nI g + (1 : Int32))) else (fX4_bestGate_L44 f' u5 (nI v) (nI g) r4.1 (nI g + (1 : Int32)))))))))))) = some p ∧ (∃ t', (if y ≤ aVal A v g then fX3_bestGate_L36 f (s.1, s.2.1, s.2.2.1, t, s.2.2.2.2) (nI v) (nI x) y (nI g + 1) else fX3_bestGate_L36 f (s.1, s.2.1, s.2.2.1, t, s.2.2.2.2) (nI v) (nI g) (aVal A v g) (nI g + 1)) = some (.inr (p.1, (s.1, s.2.1, s.2.2.1, t', s.2.2.2.2))) ∧ ∀ k, k ≠ 4 → p.2 k = r k) := by
      refine refW hB hG hv hg (fun a u5 => (if nI x = (-9 : Int32) then (fX4_bestGate_L44 f' u5 (nI v) (nI g) a (nI g + (1 : Int32))) else (if y ≤ a then (fX4_bestGate_L44 f' u5 (nI v) (nI x) y (nI g + (1 : Int32))) else (fX4_bestGate_L44 f' u5 (nI v) (nI g) a (nI g + (1 : Int32)))))) (fun r' hr' => ?_)
      have hB' : RB (r' 3) A := by rw [hr' 3 (by decide)]; exact hB
      rw [if_neg n9, nI_1]
      by_cases c : y ≤ aVal A v g
      · rw [if_pos c, if_pos c]
        obtain ⟨z, t', r2, j1, j2, j3⟩ := ih (g + 1) f f' (s.1, s.2.1, s.2.2.1, t, s.2.2.2.2) r' x y (by omega) hx (by omega) (by omega) hA hB'
        exact ⟨(z, r2), j2, t', j1, fun k hk => (j3 k hk).trans (hr' k hk)⟩
      · rw [if_neg c, if_neg c]
        obtain ⟨z, t', r2, j1, j2, j3⟩ := ih (g + 1) f f' (s.1, s.2.1, s.2.2.1, t, s.2.2.2.2) r' g (aVal A v g) (by omega) hg (by omega) (by omega) hA hB'
        exact ⟨(z, r2), j2, t', j1, fun k hk => (j3 k hk).trans (hr' k hk)⟩
    obtain ⟨p, p1, t', p2, p3⟩ := key
    exact ⟨p.1, t', p.2, p2, p1, p3⟩
end BG
