section LM
variable {T : Nat} {σ : gS} {A : AS}
theorem arrF_eq {v : Nat} : ∀ (m b : Nat) (A : AS), fr (aArr v false) m b A = ((fun k i => if (k = 2 ∨ k = 3) ∧ b ≤ i ∧ i < b + m ∧ holds A v i = true then 0 else A.1 k i), (fun g => (A.2.1 g).filter (fun x => !(decide (b ≤ x ∧ x < b + m) && holds A v x))), A.2.2) := by
  intro m
  induction m with
  | zero =>
    intro b A
    show A = _
    refine Prod.ext ?_ (Prod.ext ?_ rfl)
    · funext k i
      show A.1 k i = if _ then _ else _
      rw [if_neg (by omega)]
    · funext g
      show A.2.1 g = (A.2.1 g).filter _
      symm
      rw [List.filter_eq_self]
      intro x hx
      rw [decide_eq_false (by omega)]; rfl
  | succ m ih =>
    intro b A
    rw [fr_succ, ih]
    cases e : holds A v b with
    | true =>
      have ea : aArr v false A b = aForget A b := by unfold aArr; rw [if_pos e]; rfl
      have eh : ∀ i, holds (aForget A b) v i = holds A v i := fun i => by
        unfold holds aForget
        show decide (st2 (st2 A.1 2 b 0) 3 b 0 0 i = _) = _
        rw [st_ne (Or.inl (by decide)), st_ne (Or.inl (by decide))]
      rw [ea]
      refine Prod.ext ?_ (Prod.ext ?_ rfl)
      · funext k i
        show (if (k = 2 ∨ k = 3) ∧ b + 1 ≤ i ∧ i < b + 1 + m ∧ holds (aForget A b) v i = true then 0 else st2 (st2 A.1 2 b 0) 3 b 0 k i) = if (k = 2 ∨ k = 3) ∧ b ≤ i ∧ i < b + (m + 1) ∧ holds A v i = true then 0 else A.1 k i
        rw [eh]
        by_cases q : i = b
        · subst q
          rw [if_neg (by omega)]
          by_cases q3 : k = 3
          · rw [st_eq q3 rfl, if_pos ⟨Or.inr q3, by omega, by omega, e⟩]
          · rw [st_ne (Or.inl q3)]
            by_cases q2 : k = 2
            · rw [st_eq q2 rfl, if_pos ⟨Or.inl q2, by omega, by omega, e⟩]
            · rw [st_ne (Or.inl q2), if_neg (by omega)]
        · rw [st_ne (Or.inr q), st_ne (Or.inr q)]
          by_cases c : (k = 2 ∨ k = 3) ∧ b + 1 ≤ i ∧ i < b + 1 + m ∧ holds A v i = true
          · rw [if_pos c, if_pos ⟨c.1, by omega, by omega, c.2.2.2⟩]
          · rw [if_neg c, if_neg (fun z => c ⟨z.1, by omega, by omega, z.2.2.2⟩)]
      · funext g
        show ((A.2.1 g).filter (fun x => x != b)).filter _ = (A.2.1 g).filter _
        rw [List.filter_filter]
        refine List.filter_congr (fun x hx => ?_)
        rw [eh]
        by_cases q : x = b
        · subst q
          rw [e, decide_eq_true (show x ≤ x ∧ x < x + (m + 1) by omega)]; simp
        · have : (x != b) = true := by simp [q]
          rw [this, Bool.and_true]
          congr 2
          by_cases c : b ≤ x ∧ x < b + (m + 1)
          · rw [decide_eq_true c, decide_eq_true (by omega)]
          · rw [decide_eq_false c, decide_eq_false (by omega)]
    | false =>
      have ea : aArr v false A b = A := by unfold aArr; rw [e]; rfl
      rw [ea]
      refine Prod.ext ?_ (Prod.ext ?_ rfl)
      · funext k i
        show (if _ then _ else _) = if _ then _ else _
        by_cases q : i = b
        · subst q
          rw [if_neg (by omega), if_neg (by rw [e]; simp)]
        · by_cases c : (k = 2 ∨ k = 3) ∧ b + 1 ≤ i ∧ i < b + 1 + m ∧ holds A v i = true
          · rw [if_pos c, if_pos ⟨c.1, by omega, by omega, c.2.2.2⟩]
          · rw [if_neg c, if_neg (fun z => c ⟨z.1, by omega, by omega, z.2.2.2⟩)]
      · funext g
        refine List.filter_congr (fun x hx => ?_)
        by_cases q : x = b
        · subst q
          rw [e]; simp
        · congr 2
          by_cases c : b ≤ x ∧ x < b + (m + 1)
          · rw [decide_eq_true c, decide_eq_true (by omega)]
          · rw [decide_eq_false c, decide_eq_false (by omega)]
def aCau (A : AS) (v i : Nat) : Bool := holds A v i && (decide (A.1 1 i = 0) && decide (A.1 3 i = 1))
def aSli (A : AS) (v i : Nat) : Bool := holds A v i && (decide (A.1 1 i = 0) && !decide (A.1 3 i = 1))
theorem fb_front (p : Nat → Bool) (b m : Nat) : fb_ct (fun i => p (b + i)) (m + 1) = (if p b then 1 else 0) + fb_ct (fun i => p (b + 1 + i)) m := by
  rw [Nat.add_comm m 1, fb_ct_split (fun i => p (b + i)) 1 m]
  have : fb_ct (fun i => p (b + i)) 1 = if p b then 1 else 0 := by rw [fb_ct_succ]; show 0 + _ = _; rw [Nat.zero_add, Nat.add_zero]
  rw [this]
  congr 1
  exact fb_ct_cong (fun k _ => by show p (b + (1 + k)) = p (b + 1 + k); rw [Nat.add_assoc])
theorem arrT_eq {v : Nat} : ∀ (m b : Nat) (A : AS), fr (aArr v true) m b A = ((fun k i => if k = 12 ∧ i = 3 then A.1 12 3 + nI (fb_ct (fun i => aCau A v (b + i)) m) else if k = 12 ∧ i = 4 then A.1 12 4 + nI (fb_ct (fun i => aSli A v (b + i)) m) else if k = 13 ∧ b ≤ i ∧ i < b + m ∧ aSli A v i = true then 1 else A.1 k i), A.2) := by
  intro m
  induction m with
  | zero =>
    intro b A
    show A = _
    refine Prod.ext ?_ rfl
    funext k i
    show A.1 k i = if _ then A.1 12 3 + nI 0 else if _ then A.1 12 4 + nI 0 else if _ then 1 else A.1 k i
    have z : ∀ x : Int32, x + nI 0 = x := fun x => Int32.add_zero x
    rw [z, z, if_neg (c := k = 13 ∧ _) (by omega)]
    by_cases c1 : k = 12 ∧ i = 3
    · rw [if_pos c1, c1.1, c1.2]
    · rw [if_neg c1]
      by_cases c2 : k = 12 ∧ i = 4
      · rw [if_pos c2, c2.1, c2.2]
      · rw [if_neg c2]
  | succ m ih =>
    intro b A
    rw [fr_succ, ih, fb_front (aCau A v), fb_front (aSli A v)]
    have one : ∀ (x : Int32) (c : Bool) (n : Nat), x + nI ((if c = true then 1 else 0) + n) = (if c = true then x + 1 else x) + nI n := fun x c n => by
      rw [← nI_add, ← Int32.add_assoc]
      cases c
      · show x + nI 0 + _ = x + _
        rw [show x + nI 0 = x from Int32.add_zero x]
      · rfl
    rw [one, one]
    have key : ∀ (B : AS) (c1 c2 : Bool), aArr v true A b = B → aCau A v b = c1 → aSli A v b = c2 → B.2 = A.2 → (∀ k, k ≠ 12 → k ≠ 13 → B.1 k = A.1 k) → B.1 12 3 = (if c1 = true then A.1 12 3 + 1 else A.1 12 3) → B.1 12 4 = (if c2 = true then A.1 12 4 + 1 else A.1 12 4) → (∀ i, i ≠ 3 → i ≠ 4 → B.1 12 i = A.1 12 i) → (∀ i, B.1 13 i = if i = b ∧ c2 = true then 1 else A.1 13 i) → (((fun k i => if k = 12 ∧ i = 3 then B.1 12 3 + nI (fb_ct (fun i => aCau B v (b + 1 + i)) m) else if k = 12 ∧ i = 4 then B.1 12 4 + nI (fb_ct (fun i => aSli B v (b + 1 + i)) m) else if k = 13 ∧ b + 1 ≤ i ∧ i < b + 1 + m ∧ aSli B v i = true then 1 else B.1 k i), B.2) : AS) = ((fun k i => if k = 12 ∧ i = 3 then (if aCau A v b = true then A.1 12 3 + 1 else A.1 12 3) + nI (fb_ct (fun i => aCau A v (b + 1 + i)) m) else if k = 12 ∧ i = 4 then (if aSli A v b = true then A.1 12 4 + 1 else A.1 12 4) + nI (fb_ct (fun i => aSli A v (b + 1 + i)) m) else if k = 13 ∧ b ≤ i ∧ i < b + (m + 1) ∧ aSli A v i = true then 1 else A.1 k i), A.2) := by
      intro B c1 c2 hB h1 h2 q2 qk q3 q4 q5 q6
      have ec : ∀ i, aCau B v i = aCau A v i := fun i => by
        unfold aCau holds
        rw [qk 0 (by decide) (by decide), qk 1 (by decide) (by decide), qk 3 (by decide) (by decide)]
      have es : ∀ i, aSli B v i = aSli A v i := fun i => by
        unfold aSli holds
        rw [qk 0 (by decide) (by decide), qk 1 (by decide) (by decide), qk 3 (by decide) (by decide)]
      refine Prod.ext ?_ q2
      funext k i
      simp only [ec, es, h1, h2, q3, q4]
      by_cases d1 : k = 12 ∧ i = 3
      · rw [if_pos d1, if_pos d1]
      · rw [if_neg d1, if_neg d1]
        by_cases d2 : k = 12 ∧ i = 4
        · rw [if_pos d2, if_pos d2]
        · rw [if_neg d2, if_neg d2]
          by_cases d3 : k = 13
          · subst d3
            by_cases q : i = b
            · subst q
              rw [if_neg (by omega), q6, h2]
              cases c2 with
              | true => rw [if_pos ⟨rfl, rfl⟩, if_pos ⟨rfl, by omega, by omega, rfl⟩]
              | false => rw [if_neg (by simp), if_neg (by simp)]
            · rw [q6, if_neg (c := i = b ∧ c2 = true) (fun z => q z.1)]
              by_cases c : (13 = 13 ∧ b + 1 ≤ i ∧ i < b + 1 + m ∧ aSli A v i = true)
              · rw [if_pos c, if_pos ⟨rfl, by omega, by omega, c.2.2.2⟩]
              · rw [if_neg c, if_neg (fun z => c ⟨rfl, by omega, by omega, z.2.2.2⟩)]
          · rw [if_neg (fun z => d3 z.1), if_neg (fun z => d3 z.1)]
            by_cases d4 : k = 12
            · subst d4
              exact q5 i (fun z => d1 ⟨rfl, z⟩) (fun z => d2 ⟨rfl, z⟩)
            · rw [qk k d4 d3]
    by_cases eh : holds A v b = true
    · by_cases e1 : A.1 1 b = 0
      · by_cases e3 : A.1 3 b = 1
        · have hc : aCau A v b = true := by unfold aCau; rw [eh, decide_eq_true e1, decide_eq_true e3]; rfl
          have hs : aSli A v b = false := by unfold aSli; rw [eh, decide_eq_true e1, decide_eq_true e3]; rfl
          have ea : aArr v true A b = aS A 12 3 (A.1 12 3 + 1) := by unfold aArr; rw [if_pos eh, if_pos rfl, if_pos e1, if_pos e3]
          rw [ea]
          refine key _ true false ea hc hs rfl (fun k q q' => ?_) ?_ ?_ (fun i q q' => ?_) (fun i => ?_)
          · funext i; rw [aS_1]; exact st_ne (Or.inl q)
          · rw [aS_1, st_eq rfl rfl]; rfl
          · rw [aS_1, st_ne (by omega)]; rfl
          · rw [aS_1]; exact st_ne (Or.inr q)
          · rw [aS_1, if_neg (by simp)]; exact st_ne (by omega)
        · have hc : aCau A v b = false := by unfold aCau; rw [eh, decide_eq_true e1, decide_eq_false e3]; rfl
          have hs : aSli A v b = true := by unfold aSli; rw [eh, decide_eq_true e1, decide_eq_false e3]; rfl
          have ea : aArr v true A b = aS (aS A 12 4 (A.1 12 4 + 1)) 13 b 1 := by unfold aArr; rw [if_pos eh, if_pos rfl, if_pos e1, if_neg e3]
          rw [ea]
          refine key _ false true ea hc hs rfl (fun k q q' => ?_) ?_ ?_ (fun i q q' => ?_) (fun i => ?_)
          · funext i; rw [aS_1, st_ne (Or.inl q'), aS_1]; exact st_ne (Or.inl q)
          · rw [aS_1, st_ne (by omega), aS_1, st_ne (by omega)]; rfl
          · rw [aS_1, st_ne (by omega), aS_1, st_eq rfl rfl]; rfl
          · rw [aS_1, st_ne (by omega), aS_1]; exact st_ne (Or.inr q')
          · rw [aS_1]
            by_cases q : i = b
            · rw [st_eq rfl q, if_pos ⟨q, rfl⟩]
            · rw [st_ne (Or.inr q), if_neg (fun z => q z.1), aS_1]; exact st_ne (by omega)
      · have hc : aCau A v b = false := by unfold aCau; rw [eh, decide_eq_false e1]; rfl
        have hs : aSli A v b = false := by unfold aSli; rw [eh, decide_eq_false e1]; rfl
        have ea : aArr v true A b = A := by unfold aArr; rw [if_pos eh, if_pos rfl, if_neg e1]
        rw [ea]
        exact key _ false false ea hc hs rfl (fun k q q' => rfl) rfl rfl (fun i q q' => rfl) (fun i => by rw [if_neg (by simp)])
    · have eh' : holds A v b = false := by simpa using eh
      have hc : aCau A v b = false := by unfold aCau; rw [eh']; rfl
      have hs : aSli A v b = false := by unfold aSli; rw [eh']; rfl
      have ea : aArr v true A b = A := by unfold aArr; rw [eh']; rfl
      rw [ea]
      exact key _ false false ea hc hs rfl (fun k q q' => rfl) rfl rfl (fun i q q' => rfl) (fun i => by rw [if_neg (by simp)])
end LM
