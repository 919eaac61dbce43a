section LC
variable {T : Nat} {σ : gS} {A : AS}
theorem st2_comm {σ : gS} {k j k' j' : Nat} {x y : Int32} (h : k ≠ k' ∨ j ≠ j') : st2 (st2 σ k j x) k' j' y = st2 (st2 σ k' j' y) k j x := by
  funext a b
  by_cases e1 : a = k' ∧ b = j'
  · rw [st_eq e1.1 e1.2, st_ne (by omega), st_eq e1.1 e1.2]
  · rw [st_ne (by omega)]
    by_cases e2 : a = k ∧ b = j
    · rw [st_eq e2.1 e2.2, st_eq e2.1 e2.2]
    · rw [st_ne (by omega), st_ne (by omega), st_ne (by omega)]
theorem RA_congQ {S : gS} {q q' : Nat → List Nat} {L : List (Int32 × Int32 × Int32)} (h : RA σ (S, q, L)) (e : ∀ g, g < 3 → q' g = q g) : RA σ (S, q', L) := by
  obtain ⟨h1, h2, h3, h4, h5, h6, h7, h8, h9⟩ := h
  refine ⟨h1, h2, h3, h4, h5, fun g hg => ?_, fun g i hg hi => ?_, h8, h9⟩
  · show _ ∧ _ ∧ _ ∧ σ 4 g = nI (q' g).length
    rw [e g hg]; exact h6 g hg
  · have hi' : i < (q' g).length := hi
    show σ 5 _ = nI ((q' g).getD i 0)
    rw [e g hg] at hi' ⊢
    exact h7 g i hg hi'
theorem keepL {x y z : Int32} : ∀ (m f : Nat) (σ' : gS), m ≤ 9 → m < f → (∀ k j, k ≠ 6 → k ≠ 7 → k ≠ 8 → σ' k j = σ k j) → (∀ k j, 6 ≤ k → k ≤ 8 → j ≤ m → σ' k j = σ k j) → (∀ k j, 6 ≤ k → k ≤ 8 → m < j → j < 10 → σ' k j = σ k (j - 1)) → ∃ σ'', fX0_keepShout_L4 f σ' x y z (nI m) = some σ'' ∧ (∀ k j, k ≠ 6 → k ≠ 7 → k ≠ 8 → σ'' k j = σ k j) ∧ (σ'' 6 0 = x ∧ σ'' 7 0 = y ∧ σ'' 8 0 = z) ∧ ∀ k j, 6 ≤ k → k ≤ 8 → 0 < j → j < 10 → σ'' k j = σ k (j - 1) := by
  intro m
  induction m with
  | zero =>
    intro f σ' hm hf f1 f2 f3
    obtain ⟨f, rfl⟩ : ∃ z, f = z + 1 := ⟨f - 1, by omega⟩
    simp only [fX0_keepShout_L4]
    rw [if_pos (by decide)]
    refine gl_ex fun u1 h1 => gl_ex fun u2 h2 => gl_ex fun u3 h3 => ⟨u3, rfl, fun k j a b c => ?_, ⟨?_, ?_, ?_⟩, fun k j a b c d => ?_⟩
    all_goals rw [h3, h2, h1]
    all_goals simp only [cl_0]
    · rw [st_ne (by omega), st_ne (by omega), st_ne (by omega)]; exact f1 k j a b c
    · rw [st_ne (by decide), st_ne (by decide), st_eq rfl rfl]
    · rw [st_ne (by decide), st_eq rfl rfl]
    · rw [st_eq rfl rfl]
    · rw [st_ne (by omega), st_ne (by omega), st_ne (by omega)]; exact f3 k j a b c d
  | succ m ih =>
    intro f σ' hm hf f1 f2 f3
    obtain ⟨f, rfl⟩ : ∃ z, f = z + 1 := ⟨f - 1, by omega⟩
    have em : nI (m + 1) - 1 = nI m := nI_pred m
    simp only [fX0_keepShout_L4]
    rw [if_neg (fun q => absurd ((nI_le0 (by omega)).mp q) (by omega))]
    refine gd_ex em (by omega) (by decide) (gl_ex fun t4 h4 => gd_ex rfl (by omega) (by decide) (gl_ex fun u5 h5 => gd_ex em (by omega) (by decide) (gl_ex fun t6 h6 => gd_ex rfl (by omega) (by decide) (gl_ex fun u7 h7 => gd_ex em (by omega) (by decide) (gl_ex fun t8 h8 => gd_ex rfl (by omega) (by decide) (gl_ex fun u9 h9 => ?_))))))
    rw [em, cl_nI (by omega)] at h4 h6 h8
    rw [cl_nI (by omega)] at h5 h7 h9
    have e0 : nI (m + 1) + (-1) = nI m := pk_m1 m
    rw [e0]
    rw [f2 6 m (by decide) (by decide) (by omega)] at h4
    rw [h5, st_ne (by omega), f2 7 m (by decide) (by decide) (by omega)] at h6
    rw [h7, st_ne (by omega), h5, st_ne (by omega), f2 8 m (by decide) (by decide) (by omega)] at h8
    have hu : u9 = st2 (st2 (st2 σ' 6 (m + 1) (σ 6 m)) 7 (m + 1) (σ 7 m)) 8 (m + 1) (σ 8 m) := by rw [h9, h8, h7, h6, h5, h4]
    have hne : ∀ k j, j ≠ m + 1 ∨ (k ≠ 6 ∧ k ≠ 7 ∧ k ≠ 8) → u9 k j = σ' k j := fun k j q => by
      rw [hu, st_ne (by omega), st_ne (by omega), st_ne (by omega)]
    refine ih f u9 (by omega) (by omega) (fun k j a b c => ?_) (fun k j a b c => ?_) (fun k j a b c d => ?_)
    · rw [hne k j (by omega)]; exact f1 k j a b c
    · rw [hne k j (by omega)]; exact f2 k j a b (by omega)
    · by_cases q : j = m + 1
      · subst q
        rcases (by omega : k = 6 ∨ k = 7 ∨ k = 8) with rfl | rfl | rfl
        · rw [hu, st_ne (by omega), st_ne (by omega), st_eq rfl rfl]; rfl
        · rw [hu, st_ne (by omega), st_eq rfl rfl]; rfl
        · rw [hu, st_eq rfl rfl]; rfl
      · rw [hne k j (by omega)]; exact f3 k j a b (by omega) d
theorem keep_s (h : RA σ A) (x y z : Int32) : ∃ σ', fX0_keepShout σ x y z = some σ' ∧ RA σ' (A.1, A.2.1, (x, y, z) :: A.2.2.take 9) ∧ σ' 9 14 = σ 9 14 ∧ ∀ j, σ' 16 j = σ 16 j := by
  obtain ⟨σ', k1, k2, ⟨k3, k4, k5⟩, k6⟩ := keepL (σ := σ) (x := x) (y := y) (z := z) 9 gFuel σ (by omega) (by decide) (fun _ _ _ _ _ => rfl) (fun _ _ _ _ _ => rfl) (fun _ _ _ _ a b => by omega)
  refine ⟨σ', k1, ?_, k2 9 14 (by decide) (by decide) (by decide), fun j => k2 16 j (by decide) (by decide) (by decide)⟩
  obtain ⟨h1, h2, h3, h4, h5, h6, h7, h8, h9, h10⟩ := h
  refine ⟨fun v hv => ?_, ?_, ?_, fun b' hb' => ?_, fun v hv => ?_, fun g hg => ?_, fun g i hg hi => ?_, ?_, fun k hk => ?_, fun v hv => ?_⟩
  · simp (disch := decide) only [k2]; exact h1 v hv
  · simp (disch := decide) only [k2]; exact h2
  · simp (disch := decide) only [k2]; exact h3
  · simp (disch := decide) only [k2]; exact h4 b' hb'
  · simp (disch := decide) only [k2]; exact h5 v hv
  · simp (disch := decide) only [k2]; exact h6 g hg
  · simp (disch := decide) only [k2]; exact h7 g i hg hi
  · simp (disch := decide) only [k2]; exact h8
  · cases k with
    | zero => exact ⟨k3, k4, k5⟩
    | succ k =>
      have e : (((x, y, z) :: A.2.2.take 9).getD (k + 1) (-9, -9, -9)) = A.2.2.getD k (-9, -9, -9) := by
        rw [List.getD_cons_succ, List.getD_eq_getElem?_getD, List.getD_eq_getElem?_getD, List.getElem?_take, if_pos (by omega)]
      show σ' 6 (k + 1) = (((x, y, z) :: A.2.2.take 9).getD (k + 1) (-9, -9, -9)).1 ∧ σ' 7 (k + 1) = (((x, y, z) :: A.2.2.take 9).getD (k + 1) (-9, -9, -9)).2.1 ∧ σ' 8 (k + 1) = (((x, y, z) :: A.2.2.take 9).getD (k + 1) (-9, -9, -9)).2.2
      rw [e, k6 6 _ (by decide) (by decide) (by omega) hk, k6 7 _ (by decide) (by decide) (by omega) hk, k6 8 _ (by decide) (by decide) (by omega) hk]
      exact h9 k (by omega)
  · simp (disch := decide) only [k2]; exact h10 v hv
theorem firstWait_s (h : RA σ A) (hI : Inv T A) {g : Nat} (hg : g < 3) : fX0_firstWaiting σ (nI g) = some (match A.2.1 g with | [] => -9 | b :: _ => nI b, σ) := by
  unfold fX0_firstWaiting
  simp (disch := omega) only [gd_in, cl_nI]
  rw [(h.2.2.2.2.2.1 g hg).2.2.2]
  have hl := hI.qlen hg
  have h7 := h.2.2.2.2.2.2.1 g 0 hg
  cases hq : A.2.1 g with
  | nil => rfl
  | cons b r =>
    rw [hq] at hl h7
    rw [if_neg (fun q => absurd ((nI_le0 (by omega)).mp q) (by simp)), a20', gd_in (by omega) (by decide)]
    have := h7 (by simp)
    rw [cl_nI (by omega)]
    show some (σ 5 (20 * g + 0), σ) = _
    rw [this]; rfl
theorem queue_filter (hI : Inv T A) {g b : Nat} {r : List Nat} (hg : g < 3) (hqr : A.2.1 g = b :: r) : ∀ g', g' < 3 → (if g' = g then r else A.2.1 g') = (A.2.1 g').filter (fun x => !decide (x = b)) := by
  intro g' hg'
  have hn := hI.2.2.2.2.1
  have self : ∀ l : List Nat, b ∉ l → l.filter (fun x => !decide (x = b)) = l := fun l hl => by
    rw [List.filter_eq_self]
    intro x hx
    have : x ≠ b := fun e => hl (e ▸ hx)
    simp [this]
  rw [List.nodup_append] at hn
  obtain ⟨n0, n12, d0⟩ := hn
  rw [List.nodup_append] at n12
  obtain ⟨n1, n2, d1⟩ := n12
  have hng : (A.2.1 g).Nodup := by
    rcases (by omega : g = 0 ∨ g = 1 ∨ g = 2) with rfl | rfl | rfl
    · exact n0
    · exact n1
    · exact n2
  by_cases e : g' = g
  · subst e
    rw [if_pos rfl, hqr]
    rw [hqr] at hng
    have hb : b ∉ r := (List.nodup_cons.mp hng).1
    rw [List.filter_cons, if_neg (by simp), self r hb]
  · rw [if_neg e]
    have hbg : b ∈ A.2.1 g := by rw [hqr]; exact List.mem_cons_self
    refine (self _ (fun hb => ?_)).symm
    rcases (by omega : g = 0 ∨ g = 1 ∨ g = 2) with rfl | rfl | rfl <;> rcases (by omega : g' = 0 ∨ g' = 1 ∨ g' = 2) with rfl | rfl | rfl
    · exact e rfl
    · exact d0 b hbg b (List.mem_append_left _ hb) rfl
    · exact d0 b hbg b (List.mem_append_right _ hb) rfl
    · exact d0 b hb b (List.mem_append_left _ hbg) rfl
    · exact e rfl
    · exact d1 b hbg b hb rfl
    · exact d0 b hb b (List.mem_append_right _ hbg) rfl
    · exact d1 b hb b hbg rfl
    · exact e rfl
theorem speak_s (h : RA σ A) (hI : Inv T A) {g : Nat} (hg : g < 3) : ∃ r σ', fX0_passTick σ (nI g) (σ 9 11) = some r ∧ ((r.1 = -9 ∧ σ' = r.2) ∨ ∃ b, b < 20 ∧ r.1 = nI b ∧ σ' = st2 r.2 16 b (r.2 16 b + 1)) ∧ RA σ' (aSpeak A g) ∧ σ' 9 14 = σ 9 14 := by
  unfold fX0_passTick aSpeak
  simp (disch := omega) only [gd_in, cl_nI]
  rw [(h.2.2.2.2.2.1 g hg).2.1]
  by_cases c : A.1 10 g ≤ 0
  · rw [if_pos c, if_pos c, firstWait_s h hI hg, Option.bind_some]
    cases hq : A.2.1 g with
    | nil =>
      exact ⟨_, σ, rfl, Or.inl ⟨rfl, rfl⟩, h, rfl⟩
    | cons b r =>
      have hb : b < 20 := (hI.2.2.2.1 g b hg (by rw [hq]; exact List.mem_cons_self)).1
      have nb : nI b ≠ -9 := (by decide +kernel : ∀ b, b < 20 → nI b ≠ -9) b hb
      simp only []
      rw [if_neg nb, bit_spec, Option.bind_some]
      obtain ⟨σ1, k1, k2, k3⟩ := lforget_s (P := fun x => decide (x = b)) h (qlen_of hI) (fun g i hg hi => hI.qlt hg hi) (w := bitI b) (fun x hx => by rw [isM_has (isM_bit hb) hx])
      have k2' : RA σ1 (A.1, (fun g' => if g' = g then r else A.2.1 g'), A.2.2) := RA_congQ k2 (queue_filter hI hg hq)
      rw [k1, Option.bind_some]
      simp (disch := omega) only [gl, gd_in, cl_nI]
      have t0 : σ1 0 8 = A.1 12 1 := k2'.2.2.2.2.2.2.2.1.2.1
      have r1 := RA_qt k2' g (A.1 12 1)
      have t1 : st2 σ1 2 g (A.1 12 1) 3 g = A.1 11 g := by rw [st_ne (Or.inl (by decide))]; exact (k2'.2.2.2.2.2.1 g hg).2.2.1
      have r2 := RA_sh r1 g (A.1 11 g + 1)
      have t2 : σ 9 11 = A.1 12 2 := h.2.2.2.2.2.2.2.1.2.2.1
      rw [t0, t1, t2]
      obtain ⟨σ2, j1, j2, j3, j4⟩ := keep_s r2 (nI g) (nI b) (A.1 12 2)
      rw [j1, Option.bind_some]
      have t3 : σ2 16 b = A.1 4 b := by rw [j4, st_ne (Or.inl (by decide)), st_ne (Or.inl (by decide))]; exact (k2'.2.2.2.1 b hb).2
      have r3 := RA_cr j2 b (A.1 4 b + 1)
      refine ⟨_, st2 σ2 16 b (A.1 4 b + 1), rfl, Or.inr ⟨b, hb, rfl, by show _ = st2 σ2 16 b (σ2 16 b + 1); rw [t3]⟩, ?_, ?_⟩
      · have e : (aS ((aS (aS ((A.1, (fun g' => if g' = g then r else A.2.1 g'), A.2.2) : AS) 10 g (A.1 12 1)) 11 g (A.1 11 g + 1)).1, (fun g' => if g' = g then r else A.2.1 g'), (nI g, nI b, A.1 12 2) :: A.2.2.take 9) 4 b (A.1 4 b + 1)) = aCry A g b r := by
          unfold aCry aS
          refine Prod.ext ?_ rfl
          show st2 (st2 (st2 A.1 10 g (A.1 12 1)) 11 g (A.1 11 g + 1)) 4 b (A.1 4 b + 1) = st2 (st2 (st2 A.1 11 g (A.1 11 g + 1)) 4 b (A.1 4 b + 1)) 10 g (A.1 12 1)
          rw [st2_comm (k := 10) (k' := 11) (Or.inl (by decide)), st2_comm (k := 10) (k' := 4) (Or.inl (by decide))]
        rw [← e]; exact r3
      · rw [st_ne (Or.inl (by decide)), j3, st_ne (Or.inl (by decide)), st_ne (Or.inl (by decide))]
        exact k3 9 14 (by decide) (by decide)
  · rw [if_neg c, if_neg c]
    simp only [gl]
    exact ⟨_, st2 σ 2 g (A.1 10 g - 1), rfl, Or.inl ⟨rfl, rfl⟩, RA_qt h g _, st_ne (Or.inl (by decide))⟩
theorem speakLs : ∀ (m g f : Nat) (σ : gS) (A : AS) (T : Nat), g + m = 3 → m < f → RA σ A → Inv T A → ∃ σ', fX1_passTick_L63 f σ (nI g) = some σ' ∧ RA σ' (fr aSpeak m g A) ∧ σ' 9 14 = σ 9 14 := by
  intro m
  induction m with
  | zero =>
    intro g f σ A T hg hf h hI
    obtain ⟨f, rfl⟩ : ∃ z, f = z + 1 := ⟨f - 1, by omega⟩
    have : g = 3 := by omega
    subst this
    exact ⟨σ, rfl, h, rfl⟩
  | succ m ih =>
    intro g f σ A T hgm hf h hI
    obtain ⟨f, rfl⟩ : ∃ z, f = z + 1 := ⟨f - 1, by omega⟩
    have hg : g < 3 := by omega
    simp only [fX1_passTick_L63]
    rw [if_neg (fun q => absurd ((lel_3 (by omega)).mp q) (by omega)), nI_1, fr_succ]
    obtain ⟨r, σ1, k1, k2, k3, k4⟩ := speak_s h hI hg
    rw [k1, Option.bind_some]
    obtain ⟨σ', j1, j2, j3⟩ := ih (g + 1) f σ1 _ (T + 1) (by omega) (by omega) k3 (Inv_speak hI hg)
    refine ⟨σ', ?_, j2, j3.trans k4⟩
    rcases k2 with ⟨e1, e2⟩ | ⟨b, hb, e1, e2⟩
    · rw [e1]
      show fX1_passTick_L63 f r.2 (nI (g + 1)) = _
      rw [← e2]; exact j1
    · rw [e1, isBook_s (by omega), decide_eq_true hb, Option.bind_some]
      simp (disch := omega) only [bI_0, gl, gd_in, cl_nI]
      rw [if_neg (by decide), ← e2]
      exact j1
/-- what a tick keeps -/
theorem speak_keep (A : AS) (g : Nat) {k : Nat} (h4 : k ≠ 4) (h10 : k ≠ 10) (h11 : k ≠ 11) : (aSpeak A g).1 k = A.1 k := by
  funext i
  unfold aSpeak
  split
  · split
    · rfl
    · show st2 (st2 (st2 A.1 11 g _) 4 _ _) 10 g _ k i = _
      rw [st_ne (Or.inl h10), st_ne (Or.inl h4), st_ne (Or.inl h11)]
  · rw [aS_1, st_ne (Or.inl h10)]
theorem passTick_s (h : RA σ A) (hI : Inv T A) (hP : InvP A) : ∃ σ', fX1_passTick σ = some σ' ∧ RA σ' (aTick A) ∧ (RS σ A → RS σ' (aTick A)) ∧ InvP (aTick A) := by
  unfold fX1_passTick
  simp only [gl]
  rw [h.2.2.2.2.2.2.2.1.2.2.1]
  have r0 := RA_tick h (A.1 12 2 + 1)
  have i0 : Inv T (aS A 12 2 (A.1 12 2 + 1)) := Inv_aS hI (by omega)
  have p0 : InvP (aS A 12 2 (A.1 12 2 + 1)) := InvP_aS hP (by decide) (by decide)
  obtain ⟨σ1, k1, k2, k3, k4, k5⟩ := moveLs 6 0 gFuel _ _ (by omega) (by decide) r0 i0 p0
  obtain ⟨σ2, j1, j2, j3, j4⟩ := readGLs 3 0 gFuel _ _ (by omega) (by decide) k2 k4
  obtain ⟨σ3, l1, l2, l3⟩ := speakLs 3 0 gFuel _ _ T (by omega) (by decide) j2 j3
  rw [show (0 : Int32) = nI 0 from rfl] at k1 j1 ⊢
  have hk : ∀ k, k ≠ 2 → k ≠ 3 → k ≠ 4 → k ≠ 10 → k ≠ 11 → (aTick A).1 k = (fr aMove 6 0 (aS A 12 2 (A.1 12 2 + 1))).1 k := fun k a b c d e => by
    unfold aTick
    rw [fr_keep (f := aSpeak) (fun A b => speak_keep A b c d e), fr_keep (f := aReadGate) (fun A g => readGate_keep A g a b)]
  refine ⟨σ3, by rw [k1, j1]; exact l1, l2, fun q => ?_, fun v hv hw => ?_⟩
  · have q0 : RS (st2 σ 9 11 (A.1 12 2 + 1)) (aS A 12 2 (A.1 12 2 + 1)) := by
      unfold RS at q ⊢
      rw [st_ne (by decide)]
      exact isM_cong q (fun i _ => by rw [aS_1, st_ne (Or.inl (by decide))])
    have q1 := k3 q0
    unfold RS at q1 ⊢
    rw [l3, j4]
    exact isM_cong q1 (fun i _ => by rw [hk 13 (by decide) (by decide) (by decide) (by decide) (by decide)])
  · rw [hk 5 (by decide) (by decide) (by decide) (by decide) (by decide)] at hw
    rw [hk 7 (by decide) (by decide) (by decide) (by decide) (by decide)]
    exact k5 v hv hw
end LC
