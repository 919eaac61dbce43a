section LK
variable {T : Nat} {σ : gS} {A : AS}
theorem cp_ex {β : Type} {n k : Nat} {t o : gS} {f : gS × gS → Option β} {P : β → Prop} (D : Nat → Nat → Prop) (hD : ∀ k' j, D k' j → t k' j = o k' j) (h : ∀ t' : gS, (∀ k' j, (D k' j ∨ (k' = k ∧ j < n)) → t' k' j = o k' j) → ∃ r, f (t', o) = some r ∧ P r) : ∃ r, ((fX3_copyInts n (o k, t k)).bind fun r1 => gl (stf t k r1.2, stf o k r1.1) f) = some r ∧ P r := by
  obtain ⟨r, h1, h2⟩ := h (stf t k (va_cpy (o k) (t k) 0 0 n)) (fun k' j q => by
    by_cases e : k' = k
    · subst e
      rw [sf_eq]
      show (if 0 ≤ j ∧ j < 0 + n then o k' (0 + (j - 0)) else t k' j) = _
      by_cases c : j < n
      · rw [if_pos ⟨by omega, by omega⟩]; congr 1; omega
      · rw [if_neg (by omega)]
        rcases q with q | q
        · exact hD _ _ q
        · omega
    · rw [sf_ne e]
      rcases q with q | q
      · exact hD _ _ q
      · exact absurd q.1 e)
  refine ⟨r, ?_, h2⟩
  show f (stf t k (va_cpy (o k) (t k) 0 0 n), stf o k (o k)) = some r
  rw [sf_self]; exact h1
theorem fd_ex {β : Type} {k j : Nat} {t o : gS} {f : gS × gS → Option β} {P : β → Prop} (D : Nat → Nat → Prop) (hD : ∀ k' j, D k' j → t k' j = o k' j) (h : ∀ t' : gS, (∀ k' j', (D k' j' ∨ (k' = k ∧ j' = j)) → t' k' j' = o k' j') → ∃ r, f (t', o) = some r ∧ P r) : ∃ r, gl (o k j) (fun x => gl (st2 t k j x, o) f) = some r ∧ P r := by
  refine h (st2 t k j (o k j)) (fun k' j' q => ?_)
  by_cases e : k' = k ∧ j' = j
  · rw [st_eq e.1 e.2, e.1, e.2]
  · rw [st_ne (by omega)]
    rcases q with q | q
    · exact hD _ _ q
    · exact absurd q e
theorem RA_agree {σ' : gS} (h : RA σ A) (f : ∀ k j, ((1 ≤ k ∧ k ≤ 4 ∧ j < 3) ∨ (k = 5 ∧ j < 60) ∨ (6 ≤ k ∧ k ≤ 8 ∧ j < 10) ∨ (k = 0 ∧ j = 8) ∨ (10 ≤ k ∧ k ≤ 14 ∧ j < 6) ∨ (15 ≤ k ∧ k ≤ 16 ∧ j < 20) ∨ (k = 9 ∧ 8 ≤ j ∧ j ≤ 13)) → σ' k j = σ k j) (hl : ∀ g, g < 3 → (A.2.1 g).length ≤ 20) : RA σ' A := by
  obtain ⟨h1, h2, h3, h4, h5, h6, h7, h8, h9, h10⟩ := h
  refine ⟨fun v hv => ?_, ?_, ?_, fun b' hb' => ?_, fun v hv => ?_, fun g hg => ?_, fun g i hg hi => ?_, ?_, fun k hk => ?_, fun v hv => ?_⟩
  · rw [f 10 v (by omega)]; exact h1 v hv
  · rw [f 9 8 (by omega)]; exact h2
  · rw [f 9 9 (by omega)]; exact h3
  · rw [f 15 b' (by omega), f 16 b' (by omega)]; exact h4 b' hb'
  · rw [f 11 v (by omega), f 12 v (by omega), f 13 v (by omega), f 14 v (by omega)]; exact h5 v hv
  · rw [f 1 g (by omega), f 2 g (by omega), f 3 g (by omega), f 4 g (by omega)]; exact h6 g hg
  · have := hl g hg
    rw [f 5 _ (by omega)]; exact h7 g i hg hi
  · rw [f 9 10 (by omega), f 0 8 (by omega), f 9 11 (by omega), f 9 12 (by omega), f 9 13 (by omega)]; exact h8
  · rw [f 6 k (by omega), f 7 k (by omega), f 8 k (by omega)]; exact h9 k hk
  · rw [f 14 v (by omega)]; exact h10 v hv
theorem copy0_s (t o : gS) : ∃ r, fX0_copyFrom (t, o) = some r ∧ (r.2 = o ∧ ∀ k j, ((1 ≤ k ∧ k ≤ 4 ∧ j < 3) ∨ (k = 5 ∧ j < 60) ∨ (6 ≤ k ∧ k ≤ 8 ∧ j < 10) ∨ (k = 0 ∧ j = 8)) → r.1 k j = o k j) := by
  unfold fX0_copyFrom
  refine cp_ex (t := t) (o := o) (k := 1) (fun _ _ => False) (fun _ _ q => q.elim) fun t1 d1 => ?_
  refine cp_ex (t := t1) (o := o) (k := 2) _ d1 fun t2 d2 => ?_
  refine cp_ex (t := t2) (o := o) (k := 3) _ d2 fun t3 d3 => ?_
  refine cp_ex (t := t3) (o := o) (k := 4) _ d3 fun t4 d4 => ?_
  refine cp_ex (t := t4) (o := o) (k := 5) _ d4 fun t5 d5 => ?_
  refine cp_ex (t := t5) (o := o) (k := 6) _ d5 fun t6 d6 => ?_
  refine cp_ex (t := t6) (o := o) (k := 7) _ d6 fun t7 d7 => ?_
  refine cp_ex (t := t7) (o := o) (k := 8) _ d7 fun t8 d8 => ?_
  refine fd_ex (t := t8) (o := o) (k := 0) (j := 8) _ d8 fun t9 d9 => ?_
  refine ⟨(t9, o), rfl, rfl, fun k j q => d9 k j ?_⟩
  simp only [false_or]
  omega
theorem copyL57 {o : gS} (hw : ∀ v, v < 6 → o 14 v = 0 ∨ o 14 v = 1) : ∀ (m v f : Nat) (t : gS), v + m = 6 → m < f → (∀ k j, ((1 ≤ k ∧ k ≤ 4 ∧ j < 3) ∨ (k = 5 ∧ j < 60) ∨ (6 ≤ k ∧ k ≤ 8 ∧ j < 10) ∨ (k = 0 ∧ j = 8) ∨ (10 ≤ k ∧ k ≤ 13 ∧ j < 6) ∨ (k = 14 ∧ j < v)) → t k j = o k j) → ∃ r, fX1_copyFrom_L57 f (t, o) (nI v) = some r ∧ (r.2 = o ∧ ∀ k j, ((1 ≤ k ∧ k ≤ 4 ∧ j < 3) ∨ (k = 5 ∧ j < 60) ∨ (6 ≤ k ∧ k ≤ 8 ∧ j < 10) ∨ (k = 0 ∧ j = 8) ∨ (10 ≤ k ∧ k ≤ 14 ∧ j < 6) ∨ (15 ≤ k ∧ k ≤ 16 ∧ j < 20) ∨ (k = 9 ∧ 8 ≤ j ∧ j ≤ 14)) → r.1 k j = o k j) := by
  intro m
  induction m with
  | zero =>
    intro v f t hv hf d0
    obtain ⟨f, rfl⟩ : ∃ z, f = z + 1 := ⟨f - 1, by omega⟩
    have : v = 6 := by omega
    subst this
    simp only [fX1_copyFrom_L57]
    rw [if_pos ((lel_6 (by omega)).mpr (by omega))]
    refine cp_ex (t := t) (o := o) (k := 15) _ d0 fun t1 d1 => ?_
    refine cp_ex (t := t1) (o := o) (k := 16) _ d1 fun t2 d2 => ?_
    refine fd_ex (t := t2) (o := o) (k := 9) (j := 8) _ d2 fun t3 d3 => ?_
    refine fd_ex (t := t3) (o := o) (k := 9) (j := 9) _ d3 fun t4 d4 => ?_
    refine fd_ex (t := t4) (o := o) (k := 9) (j := 10) _ d4 fun t5 d5 => ?_
    refine fd_ex (t := t5) (o := o) (k := 9) (j := 11) _ d5 fun t6 d6 => ?_
    refine fd_ex (t := t6) (o := o) (k := 9) (j := 12) _ d6 fun t7 d7 => ?_
    refine fd_ex (t := t7) (o := o) (k := 9) (j := 13) _ d7 fun t8 d8 => ?_
    refine fd_ex (t := t8) (o := o) (k := 9) (j := 14) _ d8 fun t9 d9 => ?_
    refine ⟨(t9, o), rfl, rfl, fun k j q => d9 k j ?_⟩
    rcases q with q | q | q | q | q | q | q
    · exact (Or.inl (Or.inl (Or.inl (Or.inl (Or.inl (Or.inl (Or.inl (Or.inl (Or.inl (by omega))))))))))
    · exact (Or.inl (Or.inl (Or.inl (Or.inl (Or.inl (Or.inl (Or.inl (Or.inl (Or.inl (by omega))))))))))
    · exact (Or.inl (Or.inl (Or.inl (Or.inl (Or.inl (Or.inl (Or.inl (Or.inl (Or.inl (by omega))))))))))
    · exact (Or.inl (Or.inl (Or.inl (Or.inl (Or.inl (Or.inl (Or.inl (Or.inl (Or.inl (by omega))))))))))
    · exact (Or.inl (Or.inl (Or.inl (Or.inl (Or.inl (Or.inl (Or.inl (Or.inl (Or.inl (by omega))))))))))
    · rcases (by omega : k = 15 ∨ k = 16) with e | e
      · exact (Or.inl (Or.inl (Or.inl (Or.inl (Or.inl (Or.inl (Or.inl (Or.inl (Or.inr ⟨e, q.2.2⟩)))))))))
      · exact (Or.inl (Or.inl (Or.inl (Or.inl (Or.inl (Or.inl (Or.inl (Or.inr ⟨e, q.2.2⟩))))))))
    · rcases (by omega : j = 8 ∨ j = 9 ∨ j = 10 ∨ j = 11 ∨ j = 12 ∨ j = 13 ∨ j = 14) with e | e | e | e | e | e | e
      · exact (Or.inl (Or.inl (Or.inl (Or.inl (Or.inl (Or.inl (Or.inr ⟨q.1, e⟩)))))))
      · exact (Or.inl (Or.inl (Or.inl (Or.inl (Or.inl (Or.inr ⟨q.1, e⟩))))))
      · exact (Or.inl (Or.inl (Or.inl (Or.inl (Or.inr ⟨q.1, e⟩)))))
      · exact (Or.inl (Or.inl (Or.inl (Or.inr ⟨q.1, e⟩))))
      · exact (Or.inl (Or.inl (Or.inr ⟨q.1, e⟩)))
      · exact (Or.inl (Or.inr ⟨q.1, e⟩))
      · exact (Or.inr ⟨q.1, e⟩)
  | succ m ih =>
    intro v f t hvm hf d0
    obtain ⟨f, rfl⟩ : ∃ z, f = z + 1 := ⟨f - 1, by omega⟩
    simp only [fX1_copyFrom_L57]
    rw [if_neg (fun q => absurd ((lel_6 (by omega)).mp q) (by omega))]
    refine gd_ex rfl (by omega) (by decide) (gl_ex fun t19 h19 => ?_)
    rw [cl_nI (by omega)] at h19
    have hv := hw v (by omega)
    rw [gd_t (by rw [h19]; exact hv)]
    refine gd_ex rfl (by omega) (by decide) (gl_ex fun u h => ?_)
    rw [cl_nI (by omega), h19] at h
    rw [h, nI_1]
    refine ih (v + 1) f (st2 t 14 v (o 14 v)) (by omega) (by omega) (fun k j q => ?_)
    by_cases e : k = 14 ∧ j = v
    · rw [st_eq e.1 e.2, e.1, e.2]
    · rw [st_ne (by omega)]; exact d0 k j (by omega)
theorem copy_s (t : gS) {o : gS} (h : RA o A) (hl : ∀ g, g < 3 → (A.2.1 g).length ≤ 20) : ∃ t', fX1_copyFrom (t, o) = some (t', o) ∧ RA t' A ∧ t' 9 14 = o 9 14 := by
  have key : ∃ r, fX1_copyFrom (t, o) = some r ∧ (r.2 = o ∧ ∀ k j, ((1 ≤ k ∧ k ≤ 4 ∧ j < 3) ∨ (k = 5 ∧ j < 60) ∨ (6 ≤ k ∧ k ≤ 8 ∧ j < 10) ∨ (k = 0 ∧ j = 8) ∨ (10 ≤ k ∧ k ≤ 14 ∧ j < 6) ∨ (15 ≤ k ∧ k ≤ 16 ∧ j < 20) ∨ (k = 9 ∧ 8 ≤ j ∧ j ≤ 14)) → r.1 k j = o k j) := by
    obtain ⟨⟨t0, o0⟩, e0, e1, d0⟩ := copy0_s t o
    have e1' : o0 = o := e1
    subst e1'
    unfold fX1_copyFrom
    refine bd_ex e0 ?_
    refine cp_ex (t := t0) (o := o0) (k := 10) _ d0 fun t1 d1 => ?_
    refine cp_ex (t := t1) (o := o0) (k := 11) _ d1 fun t2 d2 => ?_
    refine cp_ex (t := t2) (o := o0) (k := 12) _ d2 fun t3 d3 => ?_
    refine cp_ex (t := t3) (o := o0) (k := 13) _ d3 fun t4 d4 => ?_
    refine copyL57 h.2.2.2.2.2.2.2.2.2 6 0 gFuel t4 rfl (by decide) (fun k j q => d4 k j ?_)
    omega
  obtain ⟨⟨t', o'⟩, e, e2, d⟩ := key
  have e2' : o' = o := e2
  subst e2'
  refine ⟨t', e, RA_agree h (fun k j q => d k j ?_) hl, d 9 14 (by omega)⟩
  omega
theorem Inv_tick (h : Inv T A) : Inv (T + 3) (aTick A) := by
  unfold aTick
  have i0 : Inv T (aS A 12 2 (A.1 12 2 + 1)) := Inv_aS h (by omega)
  have i1 : Inv T (fr aMove 6 0 (aS A 12 2 (A.1 12 2 + 1))) := fr_inv (P := Inv T) (fun a b q => by
    unfold aMove
    split
    · exact Inv_goOn q
    · exact q) 6 0 _ i0
  have i2 : ∀ (m g : Nat) (A : AS), g + m = 3 → Inv T A → Inv T (fr aReadGate m g A) := by
    intro m
    induction m with
    | zero => intro g A _ q; exact q
    | succ m ih =>
      intro g A hg q
      rw [fr_succ]
      refine ih (g + 1) _ (by omega) ?_
      unfold aReadGate
      have r : ∀ (m b : Nat) (A : AS), b + m = 20 → Inv T A → Inv T (fr (aReadStep g) m b A) := by
        intro m
        induction m with
        | zero => intro b A _ q; exact q
        | succ m ih2 =>
          intro b A hb q
          rw [fr_succ]
          exact ih2 (b + 1) _ (by omega) (Inv_readStep q (by omega) (by omega))
      exact r 20 0 A rfl q
  have i3 : ∀ (m g T : Nat) (A : AS), g + m = 3 → Inv T A → Inv (T + m) (fr aSpeak m g A) := by
    intro m
    induction m with
    | zero => intro g T A _ q; exact q
    | succ m ih =>
      intro g T A hg q
      rw [fr_succ, show T + (m + 1) = (T + 1) + m by omega]
      exact ih (g + 1) (T + 1) _ (by omega) (Inv_speak q (by omega))
  exact i3 3 0 T _ rfl (i2 3 0 _ rfl i1)
theorem shoutC_s (h : RA σ A) : fX0_shoutCount σ = some (aShouts A, σ) := by
  unfold fX0_shoutCount aShouts
  rw [cl_0, cl_1, cl_2, (h.2.2.2.2.2.1 0 (by omega)).2.2.1, (h.2.2.2.2.2.1 1 (by omega)).2.2.1, (h.2.2.2.2.2.1 2 (by omega)).2.2.1]
theorem passTicksL (x : Int32) : ∀ (m i n f : Nat) (σ : gS) (A : AS) (T : Nat), i + m = n → n < 1000 → m < f → RA σ A → Inv T A → InvP A → ∃ r, fX1_passTicks_L10 f σ (nI n) x (nI i) = some r ∧ ((r.1 = aShouts (aTicks m A) - x ∧ RA r.2 (aTicks m A)) ∧ (Inv (T + 3 * m) (aTicks m A) ∧ InvP (aTicks m A)) ∧ (RS σ A → RS r.2 (aTicks m A))) := by
  intro m
  induction m with
  | zero =>
    intro i n f σ A T hi hn hf h hI hP
    obtain ⟨f, rfl⟩ : ∃ z, f = z + 1 := ⟨f - 1, by omega⟩
    simp only [fX1_passTicks_L10]
    rw [if_pos ((le_nI (by omega) (by omega)).mpr (by omega)), shoutC_s h]
    exact ⟨_, rfl, ⟨rfl, h⟩, ⟨hI, hP⟩, id⟩
  | succ m ih =>
    intro i n f σ A T hi hn hf h hI hP
    obtain ⟨f, rfl⟩ : ∃ z, f = z + 1 := ⟨f - 1, by omega⟩
    simp only [fX1_passTicks_L10]
    rw [if_neg (fun q => absurd ((le_nI (by omega) (by omega)).mp q) (by omega))]
    obtain ⟨σ', k1, k2, k3, k4⟩ := passTick_s h hI hP
    rw [k1, Option.bind_some, nI_1, show T + 3 * (m + 1) = (T + 3) + 3 * m by omega]
    obtain ⟨r, j1, j2, j3, j4⟩ := ih (i + 1) n f σ' (aTick A) (T + 3) (by omega) hn (by omega) k2 (Inv_tick hI) k4
    exact ⟨r, j1, j2, j3, fun q => j4 (k3 q)⟩
theorem passTicks_s (h : RA σ A) (hI : Inv T A) (hP : InvP A) {n : Nat} (hn : n < 1000) : ∃ r, fX1_passTicks σ (nI n) = some r ∧ ((r.1 = aShouts (aTicks n A) - aShouts A ∧ RA r.2 (aTicks n A)) ∧ (Inv (T + 3 * n) (aTicks n A) ∧ InvP (aTicks n A)) ∧ (RS σ A → RS r.2 (aTicks n A))) := by
  unfold fX1_passTicks
  rw [shoutC_s h, Option.bind_some]
  exact passTicksL _ n 0 n gFuel σ A T (by omega) hn (by show n < 5000; omega) h hI hP
end LK
