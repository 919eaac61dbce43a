section LO
variable {T : Nat} {σ : gS} {A : AS}
theorem place_cases {p : Int32} (h : -3 ≤ p.toInt ∧ p.toInt ≤ 3) : p = -3 ∨ p = -2 ∨ p = -1 ∨ p = 0 ∨ p = 1 ∨ p = 2 ∨ p = 3 := by
  have e : ∀ q : Int32, p.toInt = q.toInt → p = q := fun q h => Int32.toInt_inj.mp h
  have t : (-3 : Int32).toInt = -3 ∧ (-2 : Int32).toInt = -2 ∧ (-1 : Int32).toInt = -1 ∧ (0 : Int32).toInt = 0 ∧ (1 : Int32).toInt = 1 ∧ (2 : Int32).toInt = 2 ∧ (3 : Int32).toInt = 3 := by decide
  obtain ⟨t1, t2, t3, t4, t5, t6, t7⟩ := t
  have c : p.toInt = -3 ∨ p.toInt = -2 ∨ p.toInt = -1 ∨ p.toInt = 0 ∨ p.toInt = 1 ∨ p.toInt = 2 ∨ p.toInt = 3 := by omega
  rcases c with c | c | c | c | c | c | c
  · exact Or.inl (e _ (by omega))
  · exact Or.inr (Or.inl (e _ (by omega)))
  · exact Or.inr (Or.inr (Or.inl (e _ (by omega))))
  · exact Or.inr (Or.inr (Or.inr (Or.inl (e _ (by omega)))))
  · exact Or.inr (Or.inr (Or.inr (Or.inr (Or.inl (e _ (by omega))))))
  · exact Or.inr (Or.inr (Or.inr (Or.inr (Or.inr (Or.inl (e _ (by omega)))))))
  · exact Or.inr (Or.inr (Or.inr (Or.inr (Or.inr (Or.inr (e _ (by omega)))))))
theorem le3 (x : Int32) : x ≤ 3 ↔ x.toInt ≤ 3 := by rw [Int32.le_iff_toInt_le]; rfl
theorem m3le (x : Int32) : (-3 : Int32) ≤ x ↔ -3 ≤ x.toInt := by rw [Int32.le_iff_toInt_le]; rfl
/-- what goOn and forgetReading do together -/
theorem goOn_s (h : RA σ A) (hI : Inv T A) (hP : InvP A) {v : Nat} (hv : v < 6) (hw : A.1 5 v = 1) : ∃ r σ', fX1_goOn σ (nI v) = some r ∧ fX1_forgetReading r.2 r.1 = some σ' ∧ RA σ' (aGoOn A v) ∧ (RS σ A → RS σ' (aGoOn A v)) := by
  have hc := (h.2.2.2.2.1 v hv).2 hw
  have step : ∀ z : Int32, (if A.1 8 v = 1 then (1 : Int32) else -1) = z → ∃ r σ', fX1_goOn_L21 σ (nI v) (nI v) (A.1 7 v) z = some r ∧ fX1_forgetReading r.2 r.1 = some σ' ∧ RA σ' (aGoOn A v) ∧ (RS σ A → RS σ' (aGoOn A v)) := by
    intro z hz
    have hst : aStep A v = aS A 7 v (A.1 7 v + z) := by unfold aStep; rw [hz]
    have hr := RA_pl h v (A.1 7 v + z)
    have hIs : Inv T (aS A 7 v (A.1 7 v + z)) := Inv_aS hI (by omega)
    have e8 : (aStep A v).1 8 v = A.1 8 v := by rw [hst, aS_1, st_ne (Or.inl (by decide))]
    have e7 : (aStep A v).1 7 v = A.1 7 v + z := by rw [hst, aS_1, st_eq rfl rfl]
    have hRS : RS σ A → RS (st2 σ 13 v (A.1 7 v + z)) (aS A 7 v (A.1 7 v + z)) := fun q => by
      unfold RS
      rw [st_ne (Or.inl (by decide))]
      exact isM_cong q (fun i _ => by rw [aS_1, st_ne (Or.inl (by decide))])
    unfold fX1_goOn_L21 aGoOn
    simp (disch := omega) only [gl, gd_in, cl_nI]
    rw [e7, st_eq rfl rfl]
    have pc := place_cases (hP v hv hw)
    by_cases c1 : (A.1 7 v + z).toInt ≤ 3
    · rw [if_pos ((le3 _).mpr c1)]
      by_cases c2 : -3 ≤ (A.1 7 v + z).toInt
      · rw [if_pos ((m3le _).mpr c2), if_pos ⟨c2, c1⟩, hst]
        exact ⟨_, _, rfl, rfl, hr, hRS⟩
      · rw [if_neg (fun q => c2 ((m3le _).mp q)), if_neg (fun q => c2 q.1)]
        have h8 : A.1 8 v ≠ 1 := fun q => by
          rw [if_pos q] at hz
          subst hz
          rcases pc with p | p | p | p | p | p | p <;> (rw [p] at c2; exact c2 (by decide))
        rw [decide_eq_false h8, hst]
        have r2 := RA_wh hr v (x := 0) (by decide)
        have i2 : Inv T (aS (aS A 7 v (A.1 7 v + z)) 5 v 0) := Inv_where hIs (Or.inl rfl)
        have hm : isM (st2 (st2 σ 13 v (A.1 7 v + z)) 11 v 0 10 v) (fun b => (aS (aS A 7 v (A.1 7 v + z)) 5 v 0).1 0 b = nI (v + 1)) := r2.bag hv
        obtain ⟨σ', k1, k2, k3⟩ := forgetRd_s r2 i2 hv hm
        refine ⟨_, σ', rfl, k1, k2, fun q => ?_⟩
        have q2 := hRS q
        unfold RS at q2 ⊢
        rw [k3, st_ne (Or.inl (by decide))]
        refine isM_cong q2 (fun i _ => ?_)
        unfold aArrive
        rw [arrF_eq]
        have t : ∀ B : AS, (if (13 = 2 ∨ 13 = 3) ∧ 0 ≤ i ∧ i < 0 + 20 ∧ holds B v i = true then (0 : Int32) else B.1 13 i) = B.1 13 i := fun B => if_neg (by omega)
        show _ ↔ (if (13 = 2 ∨ 13 = 3) ∧ 0 ≤ i ∧ i < 0 + 20 ∧ holds (aS (aS A 7 v (A.1 7 v + z)) 5 v 0) v i = true then (0 : Int32) else (aS (aS A 7 v (A.1 7 v + z)) 5 v 0).1 13 i) = 1
        rw [t, aS_1, aS_1, aS_1, st_ne (k' := 13) (k := 5) (Or.inl (by decide))]
    · rw [if_neg (fun q => c1 ((le3 _).mp q)), if_neg (fun q => c1 q.2)]
      have h8 : A.1 8 v = 1 := Classical.byContradiction fun q => by
        rw [if_neg q] at hz
        subst hz
        rcases pc with p | p | p | p | p | p | p <;> (rw [p] at c1; exact c1 (by decide))
      rw [decide_eq_true h8, hst]
      have r2 := RA_wh hr v (x := 2) (by decide)
      have i2 : Inv T (aS (aS A 7 v (A.1 7 v + z)) 5 v 2) := Inv_where hIs (Or.inr rfl)
      obtain ⟨σ', k1, k2, k3⟩ := countOut_s r2 i2 hv
      rw [k1]
      refine ⟨_, σ', rfl, ?_, k2, fun q => k3 ?_⟩
      · show fX1_forgetReading σ' 0 = some σ'
        unfold fX1_forgetReading
        rw [if_pos rfl]
      · have q2 := hRS q
        unfold RS at q2 ⊢
        rw [st_ne (Or.inl (by decide))]
        exact isM_cong q2 (fun i _ => by rw [aS_1, aS_1, aS_1, st_ne (k' := 13) (k := 5) (Or.inl (by decide))])
  unfold fX1_goOn
  rw [gd_in hv (by decide), gd_in hv (by decide)]
  simp (disch := omega) only [cl_nI]
  rw [hc.2.1, hc.2.2]
  rcases ((hI.2.2.1 v hv).2 hw).2 with z | z
  · rw [if_pos z]; exact step _ (by rw [z]; rfl)
  · rw [if_neg (by rw [z]; decide)]; exact step _ (by rw [z]; rfl)
theorem InvP_arr (hP : InvP A) (v : Nat) (out : Bool) (b : Nat) : InvP (aArr v out A b) := by
  unfold aArr
  split
  · split
    · split
      · split
        · exact InvP_aS hP (by decide) (by decide)
        · exact InvP_aS (InvP_aS hP (by decide) (by decide)) (by decide) (by decide)
      · exact hP
    · intro v' hv' hw
      have e : ∀ k j, k ≠ 2 → k ≠ 3 → (aForget A b).1 k j = A.1 k j := fun k j a c => by
        show st2 (st2 A.1 2 b 0) 3 b 0 k j = _
        rw [st_ne (Or.inl c), st_ne (Or.inl a)]
      rw [e 5 v' (by decide) (by decide)] at hw
      rw [e 7 v' (by decide) (by decide)]
      exact hP v' hv' hw
  · exact hP
theorem fr_inv {α : Type} {P : α → Prop} {f : α → Nat → α} (hs : ∀ a b, P a → P (f a b)) : ∀ (m b : Nat) (a : α), P a → P (fr f m b a) := by
  intro m
  induction m with
  | zero => intro b a h; exact h
  | succ m ih => intro b a h; rw [fr_succ]; exact ih _ _ (hs a b h)
theorem InvP_goOn (hP : InvP A) {v : Nat} : InvP (aGoOn A v) := by
  unfold aGoOn
  by_cases c : -3 ≤ ((aStep A v).1 7 v).toInt ∧ ((aStep A v).1 7 v).toInt ≤ 3
  · rw [if_pos c]
    intro v' hv' hw
    by_cases e : v' = v
    · rw [e]; exact c
    · unfold aStep at hw ⊢
      rw [aS_1, st_ne (Or.inl (by decide))] at hw
      rw [aS_1, st_ne (Or.inr e)]
      exact hP v' hv' hw
  · rw [if_neg c]
    unfold aArrive
    refine fr_inv (P := InvP) (fun a b h => InvP_arr h v _ b) 20 0 _ ?_
    intro v' hv' hw
    by_cases e : v' = v
    · rw [aS_1, st_eq rfl e] at hw
      cases q : decide (A.1 8 v = 1) <;> rw [q] at hw <;> exact absurd hw (by decide)
    · rw [aS_1, st_ne (Or.inr e)] at hw
      rw [aS_1, st_ne (Or.inl (by decide))]
      unfold aStep at hw ⊢
      rw [aS_1, st_ne (Or.inl (by decide))] at hw
      rw [aS_1, st_ne (Or.inr e)]
      exact hP v' hv' hw
theorem Inv_goOn (hI : Inv T A) {v : Nat} : Inv T (aGoOn A v) := by
  unfold aGoOn
  have hs : Inv T (aStep A v) := Inv_aS hI (by omega)
  by_cases c : -3 ≤ ((aStep A v).1 7 v).toInt ∧ ((aStep A v).1 7 v).toInt ≤ 3
  · rw [if_pos c]; exact hs
  · rw [if_neg c]
    unfold aArrive
    refine fr_inv (P := Inv T) (fun a b h => Inv_arr h v _ b) 20 0 _ (Inv_where hs ?_)
    cases decide (A.1 8 v = 1)
    · exact Or.inl rfl
    · exact Or.inr rfl
theorem moveLs : ∀ (m v f : Nat) (σ : gS) (A : AS), v + m = 6 → m < f → RA σ A → Inv T A → InvP A → ∃ σ', fX1_passTick_L12 f σ (nI v) = fX1_passTick_L45 gFuel σ' 0 ∧ RA σ' (fr aMove m v A) ∧ (RS σ A → RS σ' (fr aMove m v A)) ∧ Inv T (fr aMove m v A) ∧ InvP (fr aMove m v A) := by
  intro m
  induction m with
  | zero =>
    intro v f σ A hv hf h hI hP
    obtain ⟨f, rfl⟩ : ∃ z, f = z + 1 := ⟨f - 1, by omega⟩
    have : v = 6 := by omega
    subst this
    exact ⟨σ, rfl, h, id, hI, hP⟩
  | succ m ih =>
    intro v f σ A hvm hf h hI hP
    obtain ⟨f, rfl⟩ : ∃ z, f = z + 1 := ⟨f - 1, by omega⟩
    have hv : v < 6 := by omega
    rw [fr_succ]
    simp only [fX1_passTick_L12]
    rw [if_neg (fun q => absurd ((lel_6 (by omega)).mp q) (by omega)), gd_in hv (by decide), cl_nI (by omega), h.wh hv, nI_1]
    by_cases e : A.1 5 v = 1
    · obtain ⟨r, σ1, k1, k2, k3, k4⟩ := goOn_s h hI hP hv e
      have ea : aMove A v = aGoOn A v := if_pos e
      rw [if_pos e, k1, Option.bind_some, k2, Option.bind_some, ea]
      obtain ⟨σ', j1, j2, j3, j4, j5⟩ := ih (v + 1) f σ1 (aGoOn A v) (by omega) (by omega) k3 (Inv_goOn hI) (InvP_goOn hP)
      exact ⟨σ', j1, j2, fun q => j3 (k4 q), j4, j5⟩
    · have ea : aMove A v = A := if_neg e
      rw [if_neg e, ea]
      exact ih (v + 1) f σ A (by omega) (by omega) h hI hP
end LO
