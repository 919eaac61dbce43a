section LF
variable {T : Nat} {σ : gS} {A : AS}
theorem a20 (g : Nat) (k : Nat) : (20 : Int32) * nI g + nI k = nI (20 * g + k) := by rw [li_20, pk_mul, nI_add]
theorem a20' (g : Nat) : (20 : Int32) * nI g = nI (20 * g) := by rw [li_20, pk_mul]
theorem lforL (k2 : gS → Int32 → Int32 → Option gS) {w : Int32} {P : Nat → Bool} (hP : ∀ x, x < 20 → fX3_has w (nI x) = some (bI (P x), ())) (q : List Nat) (g : Nat) (hg : g < 3) (hq : q.length ≤ 20) (hqb : ∀ i, i < q.length → q.getD i 0 < 20) (h4 : σ 4 g = nI q.length) :
    ∀ (m k f : Nat) (σ' : gS), k + m = q.length → m < f →
      (∀ k' j, ¬ (k' = 5 ∧ 20 * g ≤ j ∧ j < 20 * g + 20) → σ' k' j = σ k' j) →
      (∀ i, i < ((q.take k).filter (fun x => !P x)).length → σ' 5 (20 * g + i) = nI (((q.take k).filter (fun x => !P x)).getD i 0)) →
      (∀ i, k ≤ i → i < q.length → σ' 5 (20 * g + i) = nI (q.getD i 0)) →
      ∃ σ'' : gS, fX0_forget_L12 k2 f σ' w (nI g) (nI ((q.take k).filter (fun x => !P x)).length) (nI k) = k2 σ'' w (nI (g + 1)) ∧
        (∀ k' j, ¬ (k' = 5 ∧ 20 * g ≤ j ∧ j < 20 * g + 20) → ¬ (k' = 4 ∧ j = g) → σ'' k' j = σ k' j) ∧ σ'' 4 g = nI (q.filter (fun x => !P x)).length ∧
        ∀ i, i < (q.filter (fun x => !P x)).length → σ'' 5 (20 * g + i) = nI ((q.filter (fun x => !P x)).getD i 0) := by
  intro m
  induction m with
  | zero =>
    intro k f σ' hk hf h1 h3 h5
    obtain ⟨f, rfl⟩ : ∃ z, f = z + 1 := ⟨f - 1, by omega⟩
    have hk : k = q.length := by omega
    subst hk
    rw [List.take_length] at h3 ⊢
    have w4 : σ' 4 g = nI q.length := by rw [h1 4 g (by omega)]; exact h4
    have fin : ∃ σ'' : gS, k2 (st2 σ' 4 g (nI (q.filter (fun x => !P x)).length)) w (nI (g + 1)) = k2 σ'' w (nI (g + 1)) ∧
        (∀ k' j, ¬ (k' = 5 ∧ 20 * g ≤ j ∧ j < 20 * g + 20) → ¬ (k' = 4 ∧ j = g) → σ'' k' j = σ k' j) ∧ σ'' 4 g = nI (q.filter (fun x => !P x)).length ∧
        ∀ i, i < (q.filter (fun x => !P x)).length → σ'' 5 (20 * g + i) = nI ((q.filter (fun x => !P x)).getD i 0) := by
      refine ⟨_, rfl, fun k' j e1 e2 => ?_, st_eq rfl rfl, fun i hi => ?_⟩
      · rw [st_ne (by omega)]; exact h1 k' j e1
      · rw [st_ne (by omega)]; exact h3 i hi
    simp (disch := omega) only [fX0_forget_L12, gl, gd_in, cl_nI, nI_1]
    by_cases e : 20 ≤ q.length
    · rw [if_pos ((lel_20 (by omega)).mpr e)]; exact fin
    · rw [if_neg (fun z => e ((lel_20 (by omega)).mp z)), w4, if_pos (nI_le (Nat.le_refl _) (by omega))]; exact fin
  | succ m ih =>
    intro k f σ' hk hf h1 h3 h5
    obtain ⟨f, rfl⟩ : ∃ z, f = z + 1 := ⟨f - 1, by omega⟩
    have hkl : k < q.length := by omega
    have hfl : ((q.take k).filter (fun x => !P x)).length ≤ k := by
      have := List.length_filter_le (fun x => !P x) (q.take k)
      rw [List.length_take] at this
      omega
    have hx := hqb k hkl
    have hx2 := h5 k (Nat.le_refl _) hkl
    have w4 : σ' 4 g = nI q.length := by rw [h1 4 g (by omega)]; exact h4
    simp (disch := omega) only [fX0_forget_L12, gl, gd_in, cl_nI, a20, nI_1]
    rw [if_neg (fun z => absurd ((lel_20 (by omega)).mp z) (by omega)), w4, if_neg (nI_ge hkl (by omega)), hx2, hP _ hx]
    simp only [Option.bind_some, bI_0]
    have ht := take_succ_getD hkl
    cases e : P (q.getD k 0) with
    | true =>
      rw [if_neg (by decide)]
      have hflt : (q.take (k + 1)).filter (fun x => !P x) = (q.take k).filter (fun x => !P x) := by
        rw [ht, List.filter_append, List.filter_cons, e]; simp
      have := ih (k + 1) f σ' (by omega) (by omega) h1 (fun i hi => ?_) (fun i hi1 hi2 => ?_)
      · rw [hflt] at this; exact this
      · rw [hflt] at hi ⊢; exact h3 i hi
      · exact h5 i (by omega) hi2
    | false =>
      rw [if_pos rfl]
      have hflt : (q.take (k + 1)).filter (fun x => !P x) = (q.take k).filter (fun x => !P x) ++ [q.getD k 0] := by
        rw [ht, List.filter_append, List.filter_cons, e]; simp
      have hlen : ((q.take (k + 1)).filter (fun x => !P x)).length = ((q.take k).filter (fun x => !P x)).length + 1 := by rw [hflt]; simp
      have := ih (k + 1) f (st2 σ' 5 (20 * g + ((q.take k).filter (fun x => !P x)).length) (nI (q.getD k 0))) (by omega) (by omega) (fun k' j e1 => ?_) (fun i hi => ?_) (fun i hi1 hi2 => ?_)
      · rw [hlen] at this; exact this
      · rw [st_ne (by omega)]; exact h1 k' j e1
      · rw [hlen] at hi
        rw [hflt]
        by_cases e2 : i = ((q.take k).filter (fun x => !P x)).length
        · subst e2
          rw [st_eq rfl rfl, getD_append_at]
        · rw [st_ne (by omega), getD_append_l (by omega)]; exact h3 i (by omega)
      · rw [st_ne (by omega)]; exact h5 i (by omega) hi2
/-- queues another -/
theorem RA_q {σ' : gS} (h : RA σ A) {q' : Nat → List Nat} (f : ∀ k j, k ≠ 4 → k ≠ 5 → σ' k j = σ k j) (hw : ∀ g, g < 3 → σ' 4 g = nI (q' g).length) (hc : ∀ g i, g < 3 → i < (q' g).length → σ' 5 (20 * g + i) = nI ((q' g).getD i 0)) : RA σ' (A.1, q', A.2.2) := by
  obtain ⟨h1, h2, h3, h4, h5, h6, h7, h8, h9, h10⟩ := h
  refine ⟨fun v hv => ?_, ?_, ?_, fun b' hb' => ?_, fun v hv => ?_, fun g hg => ?_, fun g i hg hi => hc g i hg hi, ?_, fun k hk => ?_, fun v hv => ?_⟩
  · rw [f _ _ (by decide) (by decide)]; exact h1 v hv
  · rw [f _ _ (by decide) (by decide)]; exact h2
  · rw [f _ _ (by decide) (by decide)]; exact h3
  · rw [f _ _ (by decide) (by decide), f _ _ (by decide) (by decide)]; exact h4 b' hb'
  · rw [f _ _ (by decide) (by decide), f _ _ (by decide) (by decide), f _ _ (by decide) (by decide), f _ _ (by decide) (by decide)]; exact h5 v hv
  · rw [f _ _ (by decide) (by decide), f _ _ (by decide) (by decide), f _ _ (by decide) (by decide)]
    have w := h6 g hg
    exact ⟨w.1, w.2.1, w.2.2.1, hw g hg⟩
  · rw [f _ _ (by decide) (by decide), f _ _ (by decide) (by decide), f _ _ (by decide) (by decide), f _ _ (by decide) (by decide), f _ _ (by decide) (by decide)]; exact h8
  · rw [f _ _ (by decide) (by decide), f _ _ (by decide) (by decide), f _ _ (by decide) (by decide)]; exact h9 k hk
  · rw [f _ _ (by decide) (by decide)]; exact h10 v hv
theorem lforG (hl : ∀ g, g < 3 → (A.2.1 g).length ≤ 20) (hqb : ∀ g i, g < 3 → i < (A.2.1 g).length → (A.2.1 g).getD i 0 < 20) {w : Int32} {P : Nat → Bool} (hP : ∀ x, x < 20 → fX3_has w (nI x) = some (bI (P x), ())) : ∀ (m g f : Nat) (σ : gS) (A : AS), (∀ g, g < 3 → (A.2.1 g).length ≤ 20) → (∀ g i, g < 3 → i < (A.2.1 g).length → (A.2.1 g).getD i 0 < 20) → g + m = 3 → m < f → RA σ A → ∃ σ', fX0_forget_L2 f σ w (nI g) = some σ' ∧ RA σ' (A.1, (fun g' => if g ≤ g' ∧ g' < 3 then (A.2.1 g').filter (fun x => !P x) else A.2.1 g'), A.2.2) ∧ ∀ k j, k ≠ 4 → k ≠ 5 → σ' k j = σ k j := by
  intro m
  induction m with
  | zero =>
    intro g f σ A hl hqb hg hf h
    obtain ⟨f, rfl⟩ : ∃ z, f = z + 1 := ⟨f - 1, by omega⟩
    have hg : g = 3 := by omega
    subst hg
    refine ⟨σ, rfl, ?_, fun _ _ _ _ => rfl⟩
    have e : (fun g' => if 3 ≤ g' ∧ g' < 3 then (A.2.1 g').filter (fun x => !P x) else A.2.1 g') = A.2.1 := by
      funext g'
      rw [if_neg (by omega)]
    rw [e]; exact h
  | succ m ih =>
    intro g f σ A hl hqb hgm hf h
    obtain ⟨f, rfl⟩ : ∃ z, f = z + 1 := ⟨f - 1, by omega⟩
    have hg : g < 3 := by omega
    simp only [fX0_forget_L2]
    rw [if_neg (fun q => absurd ((lel_3 (by omega)).mp q) (by omega))]
    obtain ⟨σ1, e, f1, f2, f3⟩ := lforL (σ := σ) (fX0_forget_L2 f) hP (A.2.1 g) g hg (hl g hg) (fun i hi => hqb g i hg hi) (h.2.2.2.2.2.1 g hg).2.2.2 (A.2.1 g).length 0 gFuel σ (by omega) (by have := hl g hg; show _ < 5000; omega) (fun _ _ _ => rfl) (fun i hi => by simp at hi) (fun i _ hi => h.2.2.2.2.2.2.1 g i hg hi)
    rw [List.take_zero, List.filter_nil, List.length_nil] at e
    have e' : fX0_forget_L12 (fX0_forget_L2 f) gFuel σ w (nI g) 0 0 = fX0_forget_L2 f σ1 w (nI (g + 1)) := e
    rw [e']
    have r1 : RA σ1 (A.1, (fun g' => if g' = g then (A.2.1 g).filter (fun x => !P x) else A.2.1 g'), A.2.2) := by
      refine RA_q h (fun k j e1 e2 => f1 k j (by omega) (by omega)) (fun g' hg' => ?_) (fun g' i hg' hi => ?_)
      · by_cases q : g' = g
        · subst q; rw [if_pos rfl]; exact f2
        · rw [if_neg q, f1 _ _ (by omega) (by omega)]; exact (h.2.2.2.2.2.1 g' hg').2.2.2
      · by_cases q : g' = g
        · subst q; rw [if_pos rfl] at hi ⊢; exact f3 i hi
        · rw [if_neg q] at hi ⊢
          have := hl g' hg'
          rw [f1 _ _ (by omega) (by omega)]; exact h.2.2.2.2.2.2.1 g' i hg' hi
    have hlA : ∀ g', g' < 3 → ((fun g' => if g' = g then (A.2.1 g).filter (fun x => !P x) else A.2.1 g') g').length ≤ 20 := fun g' hg' => by
      show (if g' = g then (A.2.1 g).filter (fun x => !P x) else A.2.1 g').length ≤ 20
      by_cases q : g' = g
      · rw [if_pos q]; exact Nat.le_trans (List.length_filter_le _ _) (hl g hg)
      · rw [if_neg q]; exact hl g' hg'
    have hqA : ∀ g' i, g' < 3 → i < ((fun g' => if g' = g then (A.2.1 g).filter (fun x => !P x) else A.2.1 g') g').length → ((fun g' => if g' = g then (A.2.1 g).filter (fun x => !P x) else A.2.1 g') g').getD i 0 < 20 := fun g' i hg' hi => by
      have hi' : i < (if g' = g then (A.2.1 g).filter (fun x => !P x) else A.2.1 g').length := hi
      show (if g' = g then (A.2.1 g).filter (fun x => !P x) else A.2.1 g').getD i 0 < 20
      by_cases q : g' = g
      · rw [if_pos q] at hi' ⊢
        have hm : ((A.2.1 g).filter (fun x => !P x)).getD i 0 ∈ (A.2.1 g).filter (fun x => !P x) := by rw [getD_lt hi']; exact List.getElem_mem hi'
        have hm2 := (List.mem_filter.mp hm).1
        obtain ⟨n, hn, en⟩ := List.getElem_of_mem hm2
        have := hqb g n hg hn
        rw [getD_lt hn, en] at this
        exact this
      · rw [if_neg q] at hi' ⊢; exact hqb g' i hg' hi'
    obtain ⟨σ2, e2, r2, f4⟩ := ih (g + 1) f σ1 _ hlA hqA (by omega) (by omega) r1
    refine ⟨σ2, e2, ?_, fun k j a b => by rw [f4 k j a b, f1 k j (by omega) (by omega)]⟩
    have eq : (fun g' => if g + 1 ≤ g' ∧ g' < 3 then (if g' = g then (A.2.1 g).filter (fun x => !P x) else A.2.1 g').filter (fun x => !P x) else (if g' = g then (A.2.1 g).filter (fun x => !P x) else A.2.1 g')) = (fun g' => if g ≤ g' ∧ g' < 3 then (A.2.1 g').filter (fun x => !P x) else A.2.1 g') := by
      funext g'
      by_cases q : g' = g
      · subst q
        rw [if_neg (by omega), if_pos rfl, if_pos (by omega)]
      · rw [if_neg q]
        by_cases q2 : g + 1 ≤ g' ∧ g' < 3
        · rw [if_pos q2, if_pos (by omega)]
        · rw [if_neg q2, if_neg (by omega)]
    have r2' : RA σ2 (A.1, (fun g' => if g + 1 ≤ g' ∧ g' < 3 then (if g' = g then (A.2.1 g).filter (fun x => !P x) else A.2.1 g').filter (fun x => !P x) else (if g' = g then (A.2.1 g).filter (fun x => !P x) else A.2.1 g')), A.2.2) := r2
    rw [eq] at r2'
    exact r2'
theorem lforget_s (h : RA σ A) (hl : ∀ g, g < 3 → (A.2.1 g).length ≤ 20) (hqb : ∀ g i, g < 3 → i < (A.2.1 g).length → (A.2.1 g).getD i 0 < 20) {w : Int32} {P : Nat → Bool} (hP : ∀ x, x < 20 → fX3_has w (nI x) = some (bI (P x), ())) : ∃ σ', fX0_forget σ w = some σ' ∧ RA σ' (A.1, (fun g' => (A.2.1 g').filter (fun x => !P x)), A.2.2) ∧ ∀ k j, k ≠ 4 → k ≠ 5 → σ' k j = σ k j := by
  obtain ⟨σ', e, r, f⟩ := lforG (A := A) hl hqb hP 3 0 gFuel σ A hl hqb rfl (by decide) h
  refine ⟨σ', e, ?_, f⟩
  obtain ⟨h1, h2, h3, h4, h5, h6, h7, h8, h9⟩ := r
  have t : ∀ g, g < 3 → (if 0 ≤ g ∧ g < 3 then (A.2.1 g).filter (fun x => !P x) else A.2.1 g) = (A.2.1 g).filter (fun x => !P x) := fun g hg => if_pos ⟨Nat.zero_le _, hg⟩
  refine ⟨h1, h2, h3, h4, h5, fun g hg => ?_, fun g i hg hi => ?_, h8, h9⟩
  · have := h6 g hg
    simp only [t g hg] at this
    exact this
  · have := h7 g i hg (by show i < (if 0 ≤ g ∧ g < 3 then (A.2.1 g).filter (fun x => !P x) else A.2.1 g).length; rw [t g hg]; exact hi)
    simp only [t g hg] at this
    exact this
end LF
