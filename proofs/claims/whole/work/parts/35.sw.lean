/-! THE WORLD of ShoutGates: top cells, the text, the library, the trial, sixteen kept libraries -/
abbrev ST : Type := gS × gS × gS × gS × (Nat → gS) × (Nat → Nat)
def KW (K : Nat → ClassId) (α : Nat → Nat → Nat) (Λ : Nat → gS) : va_W := ((List.range 16).map (fun i => LW K (α i) (Λ i))).flatten
def SWt (K : Nat → ClassId) (b t x y : Nat → Nat) (α : Nat → Nat → Nat) (τ : gS) (ρ : Nat → Nat) : va_W := [
  (b 0, .inr (3, [.ref (t 0), .ref (x 9), .ref (y 9), .ref (b 1), .int (τ 0 4), .ref (b 2), .ref (b 3)])),
  (b 1, .inl (K 3, 14, .inr (.inr (.inr (.inr (fun i => some (α (ρ i) 9))))))),
  (b 2, .inl (K 3, 2, .inr (.inr (.inr (.inr (fun i => some (α (14 + i) 9))))))),
  (b 3, .inl (K 1, 2, .inl (τ 1)))]
def SW (K : Nat → ClassId) (b t x y : Nat → Nat) (α : Nat → Nat → Nat) (σ : ST) : va_W := SWt K b t x y α σ.1 σ.2.2.2.2.2 ++ (TW K t σ.2.1 ++ (LW K x σ.2.2.1 ++ (LW K y σ.2.2.2.1 ++ KW K α σ.2.2.2.2.1)))
def L2 (K : Nat → ClassId) (a a2 : Nat → Nat) (q : gS × gS) : va_W := LW K a q.1 ++ LW K a2 q.2
theorem va_P_mem {D : va_G} {cl : List vw_C} {ws : va_W} {H : Heap} : va_P D cl ws H ↔ ∀ q ∈ ws, va_at D cl q H := by
  constructor
  · intro h q hq
    obtain ⟨k, hk⟩ := List.getElem?_of_mem hq
    exact h k q hk
  · intro h k q hk
    exact h q (List.mem_of_getElem? hk)
theorem va_D_mem {A : Nat → Prop} {ws : va_W} : va_D A ws ↔ (ws.map Prod.fst).Nodup ∧ ∀ q ∈ ws, A q.1 := by
  constructor
  · rintro ⟨h1, h2⟩
    refine ⟨?_, fun q hq => ?_⟩
    · unfold List.Nodup
      rw [List.pairwise_iff_getElem]
      intro i j hi hj hij e
      rw [List.length_map] at hi hj
      rw [List.getElem_map, List.getElem_map] at e
      have := h1 i j ws[i] ws[j] (List.getElem?_eq_getElem hi) (List.getElem?_eq_getElem hj) e
      omega
    · obtain ⟨k, hk⟩ := List.getElem?_of_mem hq
      exact h2 k q hk
  · rintro ⟨h1, h2⟩
    refine ⟨fun i j p q hi hj e => ?_, fun k q hk => h2 q (List.mem_of_getElem? hk)⟩
    have hi' := (List.getElem?_eq_some_iff.mp hi).1
    have hj' := (List.getElem?_eq_some_iff.mp hj).1
    have e1 : (ws.map Prod.fst)[i]'(by rw [List.length_map]; exact hi') = p.1 := by
      rw [List.getElem_map, (List.getElem?_eq_some_iff.mp hi).2]
    have e2 : (ws.map Prod.fst)[j]'(by rw [List.length_map]; exact hj') = q.1 := by
      rw [List.getElem_map, (List.getElem?_eq_some_iff.mp hj).2]
    unfold List.Nodup at h1
    rw [List.pairwise_iff_getElem] at h1
    rcases Nat.lt_trichotomy i j with c | c | c
    · exact absurd (by rw [e1, e2, e]) (h1 i j (by rw [List.length_map]; exact hi') (by rw [List.length_map]; exact hj') c)
    · exact c
    · exact absurd (by rw [e1, e2, e]) (h1 j i (by rw [List.length_map]; exact hj') (by rw [List.length_map]; exact hi') c)
theorem va_A_mem {ws : va_W} {sz q : Nat} : va_A ws sz q ↔ q ∈ ws.map Prod.fst ∨ sz ≤ q := by
  constructor
  · rintro (⟨k, e, h⟩ | h)
    · exact Or.inl (List.mem_map.mpr ⟨(q, e), List.mem_of_getElem? h, rfl⟩)
    · exact Or.inr h
  · rintro (h | h)
    · obtain ⟨⟨a, e⟩, h1, rfl⟩ := List.mem_map.mp h
      obtain ⟨k, hk⟩ := List.getElem?_of_mem h1
      exact Or.inl ⟨k, e, hk⟩
    · exact Or.inr h
theorem gE.mem {T T' : Type} {D : va_G} {Wf : T → va_W} {Wc : T' → va_W} {σ : T} {τ : T'} {put : T' → T} (h1 : ∀ q ∈ Wc τ, q ∈ Wf σ) (h2 : ((Wf σ).map Prod.fst).Nodup → ((Wc τ).map Prod.fst).Nodup) (h3 : ∀ u, (Wf (put u)).map Prod.fst = (Wf σ).map Prod.fst) (h4 : ((Wf σ).map Prod.fst).Nodup → ∀ u, ∀ q ∈ Wf (put u), q ∈ Wc u ∨ (q ∈ Wf σ ∧ q.1 ∉ (Wc τ).map Prod.fst)) : gE D Wf Wc σ τ put := by
  intro A0 H hP hD hA
  rw [va_P_mem] at hP
  rw [va_D_mem] at hD
  refine ⟨va_P_mem.mpr (fun q hq => hP q (h1 q hq)), va_D_mem.mpr ⟨h2 hD.1, fun q hq => hD.2 q (h1 q hq)⟩, fun q hq => ?_, fun H1 u hk hP1 hD1 => ⟨va_P_mem.mpr (fun q hq => ?_), va_D_mem.mpr ⟨by rw [h3]; exact hD.1, fun q hq => ?_⟩⟩⟩
  · rcases va_A_mem.mp hq with h | h
    · obtain ⟨⟨a, e⟩, h5, rfl⟩ := List.mem_map.mp h
      exact hD.2 _ (h1 _ h5)
    · exact hA q h
  · rcases h4 hD.1 u q hq with h | ⟨h5, h6⟩
    · exact va_P_mem.mp hP1 q h
    · have hl := (hP q h5).lt
      refine (hP q h5).kept (hk q.1 hl (fun h7 => ?_))
      rcases va_A_mem.mp h7 with h8 | h8
      · exact h6 h8
      · omega
  · have h5 : q.1 ∈ (Wf (put u)).map Prod.fst := List.mem_map.mpr ⟨q, hq, rfl⟩
    rw [h3] at h5
    obtain ⟨q', h6, h7⟩ := List.mem_map.mp h5
    rw [← h7]
    exact hD.2 q' h6
theorem nodup_mid {P C S : List Nat} (h : (P ++ (C ++ S)).Nodup) : C.Nodup ∧ (∀ a ∈ P, a ∉ C) ∧ (∀ a ∈ S, a ∉ C) := by
  rw [List.nodup_append] at h
  obtain ⟨-, h2, h3⟩ := h
  have h2' := h2
  rw [List.nodup_append] at h2'
  exact ⟨h2'.1, fun a ha hc => h3 a ha a (List.mem_append_left _ hc) rfl, fun a ha hc => h2'.2.2 a hc a ha rfl⟩
/-- the callee's world is one stretch of the caller's -/
theorem gE.mid {T T' : Type} {D : va_G} {Wf : T → va_W} {Wc : T' → va_W} {σ : T} {τ : T'} {put : T' → T} (P S : va_W) (h1 : Wf σ = P ++ (Wc τ ++ S)) (h2 : ∀ u, Wf (put u) = P ++ (Wc u ++ S)) (h3 : ∀ u, (Wc u).map Prod.fst = (Wc τ).map Prod.fst) : gE D Wf Wc σ τ put := by
  have hm : (Wf σ).map Prod.fst = P.map Prod.fst ++ ((Wc τ).map Prod.fst ++ S.map Prod.fst) := by rw [h1]; simp
  refine gE.mem (fun q hq => ?_) (fun h => ?_) (fun u => ?_) (fun h u q hq => ?_)
  · rw [h1]; simp [hq]
  · rw [hm] at h; exact (nodup_mid h).1
  · rw [h2, h1]; simp [h3]
  · rw [hm] at h
    obtain ⟨-, n1, n2⟩ := nodup_mid h
    rw [h2] at hq
    rcases List.mem_append.mp hq with h5 | h5
    · exact Or.inr ⟨by rw [h1]; exact List.mem_append_left _ h5, n1 _ (List.mem_map.mpr ⟨q, h5, rfl⟩)⟩
    · rcases List.mem_append.mp h5 with h6 | h6
      · exact Or.inl h6
      · exact Or.inr ⟨by rw [h1]; exact List.mem_append_right _ (List.mem_append_right _ h6), n2 _ (List.mem_map.mpr ⟨q, h6, rfl⟩)⟩
/-- two stretches, the callee's world is the second and then the first -/
theorem gE.mid2 {T T1 T2 : Type} {D : va_G} {Wf : T → va_W} {X : T1 → va_W} {Y : T2 → va_W} {Wc : T2 × T1 → va_W} {σ : T} {τ : T2 × T1} {put : T2 × T1 → T} (P M S : va_W) (hc : ∀ u, Wc u = Y u.1 ++ X u.2) (h1 : Wf σ = P ++ (X τ.2 ++ (M ++ (Y τ.1 ++ S)))) (h2 : ∀ u, Wf (put u) = P ++ (X u.2 ++ (M ++ (Y u.1 ++ S)))) (h3 : ∀ u, (X u).map Prod.fst = (X τ.2).map Prod.fst) (h4 : ∀ u, (Y u).map Prod.fst = (Y τ.1).map Prod.fst) : gE D Wf Wc σ τ put := by
  have hm : (Wf σ).map Prod.fst = P.map Prod.fst ++ ((X τ.2).map Prod.fst ++ (M.map Prod.fst ++ ((Y τ.1).map Prod.fst ++ S.map Prod.fst))) := by rw [h1]; simp
  have hm2 : (Wf σ).map Prod.fst = (P.map Prod.fst ++ ((X τ.2).map Prod.fst ++ M.map Prod.fst)) ++ ((Y τ.1).map Prod.fst ++ S.map Prod.fst) := by rw [hm]; simp
  have hk : (Wc τ).map Prod.fst = (Y τ.1).map Prod.fst ++ (X τ.2).map Prod.fst := by rw [hc]; simp
  refine gE.mem (fun q hq => ?_) (fun h => ?_) (fun u => ?_) (fun h u q hq => ?_)
  · rw [hc] at hq
    rw [h1]
    rcases List.mem_append.mp hq with h5 | h5
    · simp [h5]
    · simp [h5]
  · rw [hk]
    have a := nodup_mid (by rw [← hm]; exact h)
    have b := nodup_mid (by rw [← hm2]; exact h)
    rw [List.nodup_append]
    refine ⟨b.1, a.1, fun z hz w hw e => ?_⟩
    subst e
    exact b.2.1 z (List.mem_append_right _ (List.mem_append_left _ hw)) hz
  · rw [h2, h1]; simp [h3, h4]
  · have a := nodup_mid (by rw [← hm]; exact h)
    have b := nodup_mid (by rw [← hm2]; exact h)
    rw [h2] at hq
    rw [hk]
    have no : ∀ z, z ∉ (X τ.2).map Prod.fst → z ∉ (Y τ.1).map Prod.fst → z ∉ (Y τ.1).map Prod.fst ++ (X τ.2).map Prod.fst := fun z n1 n2 hz => by
      rcases List.mem_append.mp hz with h9 | h9
      · exact n2 h9
      · exact n1 h9
    have mp : ∀ {q : Nat × va_E} {l : va_W}, q ∈ l → q.1 ∈ l.map Prod.fst := fun h => List.mem_map.mpr ⟨_, h, rfl⟩
    rcases List.mem_append.mp hq with h5 | h5
    · exact Or.inr ⟨by rw [h1]; simp [h5], no _ (a.2.1 _ (mp h5)) (b.2.1 _ (List.mem_append_left _ (mp h5)))⟩
    · rcases List.mem_append.mp h5 with h6 | h6
      · exact Or.inl (by rw [hc]; exact List.mem_append_right _ h6)
      · rcases List.mem_append.mp h6 with h7 | h7
        · exact Or.inr ⟨by rw [h1]; simp [h7], no _ (a.2.2 _ (List.mem_append_left _ (mp h7))) (b.2.1 _ (List.mem_append_right _ (List.mem_append_right _ (mp h7))))⟩
        · rcases List.mem_append.mp h7 with h8 | h8
          · exact Or.inl (by rw [hc]; exact List.mem_append_left _ h8)
          · exact Or.inr ⟨by rw [h1]; simp [h8], no _ (a.2.2 _ (List.mem_append_right _ (List.mem_append_right _ (mp h8)))) (b.2.2 _ (mp h8))⟩
/-- the same, the callee's world the first and then the second -/
theorem gE.mid3 {T T1 T2 : Type} {D : va_G} {Wf : T → va_W} {X : T1 → va_W} {Y : T2 → va_W} {Wc : T1 × T2 → va_W} {σ : T} {τ : T1 × T2} {put : T1 × T2 → T} (P M S : va_W) (hc : ∀ u, Wc u = X u.1 ++ Y u.2) (h1 : Wf σ = P ++ (X τ.1 ++ (M ++ (Y τ.2 ++ S)))) (h2 : ∀ u, Wf (put u) = P ++ (X u.1 ++ (M ++ (Y u.2 ++ S)))) (h3 : ∀ u, (X u).map Prod.fst = (X τ.1).map Prod.fst) (h4 : ∀ u, (Y u).map Prod.fst = (Y τ.2).map Prod.fst) : gE D Wf Wc σ τ put := by
  have hm : (Wf σ).map Prod.fst = P.map Prod.fst ++ ((X τ.1).map Prod.fst ++ (M.map Prod.fst ++ ((Y τ.2).map Prod.fst ++ S.map Prod.fst))) := by rw [h1]; simp
  have hm2 : (Wf σ).map Prod.fst = (P.map Prod.fst ++ ((X τ.1).map Prod.fst ++ M.map Prod.fst)) ++ ((Y τ.2).map Prod.fst ++ S.map Prod.fst) := by rw [hm]; simp
  have hk : (Wc τ).map Prod.fst = (X τ.1).map Prod.fst ++ (Y τ.2).map Prod.fst := by rw [hc]; simp
  refine gE.mem (fun q hq => ?_) (fun h => ?_) (fun u => ?_) (fun h u q hq => ?_)
  · rw [hc] at hq
    rw [h1]
    rcases List.mem_append.mp hq with h5 | h5
    · simp [h5]
    · simp [h5]
  · rw [hk]
    have a := nodup_mid (by rw [← hm]; exact h)
    have b := nodup_mid (by rw [← hm2]; exact h)
    rw [List.nodup_append]
    refine ⟨a.1, b.1, fun z hz w hw e => ?_⟩
    subst e
    exact b.2.1 z (List.mem_append_right _ (List.mem_append_left _ hz)) hw
  · rw [h2, h1]; simp [h3, h4]
  · have a := nodup_mid (by rw [← hm]; exact h)
    have b := nodup_mid (by rw [← hm2]; exact h)
    rw [h2] at hq
    rw [hk]
    have no : ∀ z, z ∉ (X τ.1).map Prod.fst → z ∉ (Y τ.2).map Prod.fst → z ∉ (X τ.1).map Prod.fst ++ (Y τ.2).map Prod.fst := fun z n1 n2 hz => by
      rcases List.mem_append.mp hz with h9 | h9
      · exact n1 h9
      · exact n2 h9
    have mp : ∀ {q : Nat × va_E} {l : va_W}, q ∈ l → q.1 ∈ l.map Prod.fst := fun h => List.mem_map.mpr ⟨_, h, rfl⟩
    rcases List.mem_append.mp hq with h5 | h5
    · exact Or.inr ⟨by rw [h1]; simp [h5], no _ (a.2.1 _ (mp h5)) (b.2.1 _ (List.mem_append_left _ (mp h5)))⟩
    · rcases List.mem_append.mp h5 with h6 | h6
      · exact Or.inl (by rw [hc]; exact List.mem_append_left _ h6)
      · rcases List.mem_append.mp h6 with h7 | h7
        · exact Or.inr ⟨by rw [h1]; simp [h7], no _ (a.2.2 _ (List.mem_append_left _ (mp h7))) (b.2.1 _ (List.mem_append_right _ (List.mem_append_right _ (mp h7))))⟩
        · rcases List.mem_append.mp h7 with h8 | h8
          · exact Or.inl (by rw [hc]; exact List.mem_append_right _ h8)
          · exact Or.inr ⟨by rw [h1]; simp [h8], no _ (a.2.2 _ (List.mem_append_right _ (List.mem_append_right _ (mp h8)))) (b.2.2 _ (mp h8))⟩
theorem LW_addr (K : Nat → ClassId) (a : Nat → Nat) (σ σ' : gS) : (LW K a σ).map Prod.fst = (LW K a σ').map Prod.fst := rfl
theorem TW_addr (K : Nat → ClassId) (a : Nat → Nat) (σ σ' : gS) : (TW K a σ).map Prod.fst = (TW K a σ').map Prod.fst := rfl
theorem rg16 : ∀ k, k < 16 → List.range 16 = List.range k ++ (k :: List.range' (k + 1) (15 - k)) := by decide
def KP (K : Nat → ClassId) (α : Nat → Nat → Nat) (Λ : Nat → gS) (k : Nat) : va_W := ((List.range k).map (fun i => LW K (α i) (Λ i))).flatten
def KS (K : Nat → ClassId) (α : Nat → Nat → Nat) (Λ : Nat → gS) (k : Nat) : va_W := ((List.range' (k + 1) (15 - k)).map (fun i => LW K (α i) (Λ i))).flatten
theorem KW_at (K : Nat → ClassId) (α : Nat → Nat → Nat) (Λ : Nat → gS) {k : Nat} (hk : k < 16) : KW K α Λ = KP K α Λ k ++ (LW K (α k) (Λ k) ++ KS K α Λ k) := by
  unfold KW KP KS
  rw [rg16 k hk, List.map_append, List.map_cons, List.flatten_append, List.flatten_cons]
def kUp (Λ : Nat → gS) (k : Nat) (u : gS) : Nat → gS := fun i => if i = k then u else Λ i
theorem KW_up (K : Nat → ClassId) (α : Nat → Nat → Nat) (Λ : Nat → gS) {k : Nat} (hk : k < 16) (u : gS) : KW K α (kUp Λ k u) = KP K α Λ k ++ (LW K (α k) u ++ KS K α Λ k) := by
  rw [KW_at K α (kUp Λ k u) hk]
  have e1 : KP K α (kUp Λ k u) k = KP K α Λ k := by
    unfold KP
    congr 1
    refine List.map_congr_left (fun i hi => ?_)
    have : i ≠ k := by have := List.mem_range.mp hi; omega
    simp [kUp, this]
  have e2 : KS K α (kUp Λ k u) k = KS K α Λ k := by
    unfold KS
    congr 1
    refine List.map_congr_left (fun i hi => ?_)
    have : i ≠ k := by
      have := (List.mem_range'_1.mp hi).1
      omega
    simp [kUp, this]
  rw [e1, e2]
  simp [kUp]
section SWE
variable (D : va_G) (K : Nat → ClassId) (b t x y : Nat → Nat) (α : Nat → Nat → Nat) (σ : ST)
theorem SWe_t : gE D (SW K b t x y α) (TW K t) σ σ.2.1 (fun u => (σ.1, u, σ.2.2)) := gE.mid (SWt K b t x y α σ.1 σ.2.2.2.2.2) (LW K x σ.2.2.1 ++ (LW K y σ.2.2.2.1 ++ KW K α σ.2.2.2.2.1)) rfl (fun _ => rfl) (fun _ => rfl)
theorem SWe_x : gE D (SW K b t x y α) (LW K x) σ σ.2.2.1 (fun u => (σ.1, σ.2.1, u, σ.2.2.2)) := gE.mid (SWt K b t x y α σ.1 σ.2.2.2.2.2 ++ TW K t σ.2.1) (LW K y σ.2.2.2.1 ++ KW K α σ.2.2.2.2.1) (by simp [SW]) (fun _ => by simp [SW]) (fun _ => rfl)
theorem SWe_y : gE D (SW K b t x y α) (LW K y) σ σ.2.2.2.1 (fun u => (σ.1, σ.2.1, σ.2.2.1, u, σ.2.2.2.2)) := gE.mid (SWt K b t x y α σ.1 σ.2.2.2.2.2 ++ (TW K t σ.2.1 ++ LW K x σ.2.2.1)) (KW K α σ.2.2.2.2.1) (by simp [SW]) (fun _ => by simp [SW]) (fun _ => rfl)
/-- trial.copyFrom(library) -/
theorem SWe_yx : gE D (SW K b t x y α) (L2 K y x) σ (σ.2.2.2.1, σ.2.2.1) (fun u => (σ.1, σ.2.1, u.2, u.1, σ.2.2.2.2)) := gE.mid2 (X := LW K x) (Y := LW K y) (SWt K b t x y α σ.1 σ.2.2.2.2.2 ++ TW K t σ.2.1) [] (KW K α σ.2.2.2.2.1) (fun _ => rfl) (by simp [SW]) (fun _ => by simp [SW]) (fun _ => rfl) (fun _ => rfl)
/-- a kept library.copyFrom(library) -/
theorem SWe_kx {k : Nat} (hk : k < 16) : gE D (SW K b t x y α) (L2 K (α k) x) σ (σ.2.2.2.2.1 k, σ.2.2.1) (fun u => (σ.1, σ.2.1, u.2, σ.2.2.2.1, kUp σ.2.2.2.2.1 k u.1, σ.2.2.2.2.2)) := gE.mid2 (X := LW K x) (Y := LW K (α k)) (SWt K b t x y α σ.1 σ.2.2.2.2.2 ++ TW K t σ.2.1) (LW K y σ.2.2.2.1 ++ KP K α σ.2.2.2.2.1 k) (KS K α σ.2.2.2.2.1 k) (fun _ => rfl) (by simp [SW, KW_at K α σ.2.2.2.2.1 hk]) (fun u => by simp [SW, KW_up K α σ.2.2.2.2.1 hk]) (fun _ => rfl) (fun _ => rfl)
/-- library.copyFrom(a kept library) -/
theorem SWe_xk {k : Nat} (hk : k < 16) : gE D (SW K b t x y α) (L2 K x (α k)) σ (σ.2.2.1, σ.2.2.2.2.1 k) (fun u => (σ.1, σ.2.1, u.1, σ.2.2.2.1, kUp σ.2.2.2.2.1 k u.2, σ.2.2.2.2.2)) := gE.mid3 (X := LW K x) (Y := LW K (α k)) (SWt K b t x y α σ.1 σ.2.2.2.2.2 ++ TW K t σ.2.1) (LW K y σ.2.2.2.1 ++ KP K α σ.2.2.2.2.1 k) (KS K α σ.2.2.2.2.1 k) (fun _ => rfl) (by simp [SW, KW_at K α σ.2.2.2.2.1 hk]) (fun u => by simp [SW, KW_up K α σ.2.2.2.2.1 hk]) (fun _ => rfl) (fun _ => rfl)
/-- the object of a kept library lies in the world -/
theorem SW_kept {k : Nat} (hk : k < 16) : ∃ (p : Nat) (fs : List Value), (SW K b t x y α σ)[p]? = some (α k 9, .inr (1, fs)) := by
  have h1 : ∃ fs : List Value, (α k 9, (.inr (1, fs) : va_E)) ∈ LW K (α k) (σ.2.2.2.2.1 k) := ⟨_, List.mem_of_getElem? (i := 9) rfl⟩
  obtain ⟨fs, h1⟩ := h1
  have h2 : (α k 9, (.inr (1, fs) : va_E)) ∈ SW K b t x y α σ := by
    unfold SW
    rw [KW_at K α σ.2.2.2.2.1 hk]
    exact List.mem_append_right _ (List.mem_append_right _ (List.mem_append_right _ (List.mem_append_right _ (List.mem_append_right _ (List.mem_append_left _ h1)))))
  obtain ⟨p, hp⟩ := List.getElem?_of_mem h2
  exact ⟨p, fs, hp⟩
end SWE
