section TD
variable {T T' : Nat} {A A' : AS} {s s' : ST} {r r' : gS}
def Sav (T : Nat) (top : gS) (κ : Nat → gS) (is ke : Nat → Int32) (As : Nat → AS) : Prop := ∀ k, k < 2 → (top 1 k = 0 ∨ top 1 k = 1) ∧ is k = top 1 k ∧ (top 1 k = 1 → Good T (As k) ∧ RA (κ (14 + k)) (As k) ∧ RB (fun j => ke (233 * k + j)) (As k))
def Tx (t r : gS) : Prop := ∃ len, len ≤ 120 ∧ t 0 1 = nI len ∧ r 0 2 = nI len ∧ ∀ i, i < len → ∃ c, c ≤ 255 ∧ t 1 i = nI c ∧ r 1 i = nI c
def TopA (T : Nat) (s : ST) (r : gS) (A : AS) : Prop := Good T A ∧ RA s.2.2.1 A ∧ RB (r 3) A ∧ (∃ n Ar, s.1 0 4 = nI n ∧ r 0 10 = nI n ∧ Rem T n s.2.2.2.2.2 s.2.2.2.2.1 (r 5) Ar) ∧ (∃ As, Sav T s.1 s.2.2.2.2.1 (r 7) (r 6) As) ∧ Tx s.2.1 r
def Top (T : Nat) (s : ST) (r : gS) : Prop := ∃ A, TopA T s r A
theorem Good_mono (h : Good T A) (hT : T ≤ T') : Good T' A := ⟨Inv_mono h.1 hT, h.2⟩
theorem Rem_mono {n : Nat} {ρ : Nat → Nat} {κ : Nat → gS} {di : Nat → Int32} {Ar : Nat → AS} (h : Rem T n ρ κ di Ar) (hT : T ≤ T') : Rem T' n ρ κ di Ar := ⟨h.1, h.2.1, h.2.2.1, fun i hi => ⟨Good_mono (h.2.2.2 i hi).1 hT, (h.2.2.2 i hi).2⟩⟩
theorem Sav_mono {top : gS} {κ : Nat → gS} {is ke : Nat → Int32} {As : Nat → AS} (h : Sav T top κ is ke As) (hT : T ≤ T') : Sav T' top κ is ke As := fun k hk => ⟨(h k hk).1, (h k hk).2.1, fun q => ⟨Good_mono ((h k hk).2.2 q).1 hT, ((h k hk).2.2 q).2⟩⟩
/-- library and row anew, trials and refusal whatever they are -/
theorem TopA_upd (h : TopA T s r A) (hT : T ≤ T') (e1 : s'.1 = s.1) (e2 : s'.2.1 = s.2.1) (e3 : s'.2.2.2.2 = s.2.2.2.2) (hA : RA s'.2.2.1 A') (hB : RB (r' 3) A') (hG : Good T' A') (f : ∀ k j, k ≠ 3 → k ≠ 4 → ¬ (k = 0 ∧ j = 0) → r' k j = r k j) : TopA T' s' r' A' := by
  obtain ⟨-, -, -, ⟨n, Ar, c1, c2, c3⟩, ⟨As, c4⟩, len, l1, l2, l3, l4⟩ := h
  have f5 : r' 5 = r 5 := funext fun j => f 5 j (by decide) (by decide) (by omega)
  have f6 : r' 6 = r 6 := funext fun j => f 6 j (by decide) (by decide) (by omega)
  have f7 : r' 7 = r 7 := funext fun j => f 7 j (by decide) (by decide) (by omega)
  have f1 : r' 1 = r 1 := funext fun j => f 1 j (by decide) (by decide) (by omega)
  refine ⟨hG, hA, hB, ⟨n, Ar, by rw [e1]; exact c1, by rw [f 0 10 (by decide) (by decide) (by omega)]; exact c2, ?_⟩, ⟨As, ?_⟩, len, l1, by rw [e2]; exact l2, by rw [f 0 2 (by decide) (by decide) (by omega)]; exact l3, ?_⟩
  · rw [e3, f5]; exact Rem_mono c3 hT
  · rw [e1, e3, f6, f7]; exact Sav_mono c4 hT
  · rw [e2, f1]; exact l4
theorem TopA_rem (h : TopA T s r A) : ∃ s1 r1, fX3_remember s = some s1 ∧ fX4_remember r = some r1 ∧ TopA T s1 r1 A ∧ s1.2.2.1 = s.2.2.1 ∧ r1 3 = r 3 ∧ r1 0 0 = r 0 0 := by
  obtain ⟨hG, hA, hB, ⟨n, Ar, c1, c2, c3⟩, ⟨As, c4⟩, len, l1, l2, l3, l4⟩ := h
  obtain ⟨s1, r1, n', Ar', k1, k2, ⟨k3, k4, k5, k6, k7⟩, k8, k9, k10, k11⟩ := remember_s c3 c1 c2 hG hA hB
  have g3 : r1 3 = r 3 := funext fun j => k8 3 j (by decide) (by omega)
  have g6 : r1 6 = r 6 := funext fun j => k8 6 j (by decide) (by omega)
  have g7 : r1 7 = r 7 := funext fun j => k8 7 j (by decide) (by omega)
  have g1 : r1 1 = r 1 := funext fun j => k8 1 j (by decide) (by omega)
  refine ⟨s1, r1, k1, k2, ⟨hG, by rw [k5]; exact hA, by rw [g3]; exact hB, ⟨n', Ar', k9, k10, k11⟩, ⟨As, fun k hk => ?_⟩, len, l1, by rw [k4]; exact l2, by rw [k8 0 2 (by decide) (by omega)]; exact l3, by rw [k4, g1]; exact l4⟩, k5, g3, k8 0 0 (by decide) (by omega)⟩
  have := c4 k hk
  rw [k3 1 k (by omega), k7 (14 + k) (by omega), g6, g7]
  exact this
/-- one call: what the class did and what the reference did agree -/
def Step (T : Nat) (code : Nat → Nat) (x : Option ((Nat × ST) ⊕ (Int32 × ST))) (y : Option (Int32 × gS)) : Prop := ∃ s' v r', y = some (v, r') ∧ Top T s' r' ∧ ((∃ n, x = some (.inl (n, s')) ∧ 1 ≤ code n ∧ r' 0 0 = nI (code n)) ∨ (x = some (.inr (v, s')) ∧ r' 0 0 = 0))
theorem in_nI {p : Int32} {n : Nat} (h : 0 ≤ p.toInt ∧ p.toInt < (n : Int)) : ∃ v, v < n ∧ p = nI v := by
  refine ⟨p.toInt.toNat, by omega, Int32.toInt_inj.mp ?_⟩
  have hlt := Int32.toInt_lt p
  have : (nI p.toInt.toNat).toInt = ((p.toInt.toNat : Nat) : Int) := Int32.toInt_ofNat_of_lt (by omega)
  rw [this]; omega
end TD
