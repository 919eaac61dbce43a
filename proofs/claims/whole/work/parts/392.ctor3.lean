theorem c_permP {l : Launch} {rm : Room} {own : String} {cc : ByteArray} {Ts : List Cond} {nL : Nat} {D : va_G} {tys : List (ClassId × FieldType)} {fin : va_W → Prop} {g : va_W → Nat → Nat → Nat → List (Nat × Value) → List Value → Prop} {ws ws' : va_W} {k n pc : Nat} {lv : List (Nat × Value)} {st : List Value} (C : cC l rm own cc Ts nL D tys fin g) (h : ws.Perm ws') (kk : g ws' k n pc lv st) : g ws k n pc lv st :=
  c_perm C (fun q hq => h.mem_iff.mpr hq) (fun hn => ((h.map Prod.fst).nodup_iff).mp hn) kk
theorem c_cong {l : Launch} {rm : Room} {own : String} {cc : ByteArray} {Ts : List Cond} {nL : Nat} {D : va_G} {tys : List (ClassId × FieldType)} {fin : va_W → Prop} {g : va_W → Nat → Nat → Nat → List (Nat × Value) → List Value → Prop} {ws ws' : va_W} {k n pc : Nat} {lv : List (Nat × Value)} {st : List Value} (C : cC l rm own cc Ts nL D tys fin g) (h1 : ∀ H, va_P D vwCl ws H → va_P D vwCl ws' H) (h2 : ws.map Prod.fst = ws'.map Prod.fst) (kk : g ws' k n pc lv st) : g ws k n pc lv st := by
  obtain ⟨p, e, s, m, args, below, meth, c, A, Q, hx, hb, hml, hown, hts, hK, hA, hin9, hO, rfl, hret⟩ := C
  intro H locs ls hP hD hS hl
  rw [va_D_mem] at hD
  refine kk H locs ls (h1 H hP) (va_D_mem.mpr ⟨by rw [← h2]; exact hD.1, fun q hq => ?_⟩) hS hl
  have h5 : q.1 ∈ ws.map Prod.fst := by rw [h2]; exact List.mem_map.mpr ⟨q, hq, rfl⟩
  obtain ⟨q', h6, h7⟩ := List.mem_map.mp h5
  rw [← h7]
  exact hD.2 q' h6
/-- a row of references, by its first N places -/
def rfA (N i o : Nat) (α : Nat → Nat → Nat) : vp_A := (N, .inr (.inr (.inr (.inr (fun j => if j < i then some (α (o + j) 9) else none)))))
theorem rfA_full (cA : ClassId) (N o : Nat) (α : Nat → Nat → Nat) : vp_cell cA (rfA N N o α) = vp_cell cA (N, .inr (.inr (.inr (.inr (fun j => some (α (o + j) 9)))))) := by
  unfold vp_cell rfA arrV
  simp only []
  congr 2
  funext j
  simp [j.isLt]
def KWn (K : Nat → ClassId) (α : Nat → Nat → Nat) (σL : gS) (n : Nat) : va_W := ((List.range n).map (fun i => LW K (α i) σL)).flatten
def aUp (α : Nat → Nat → Nat) (i : Nat) (a : Nat → Nat) : Nat → Nat → Nat := fun j => if j = i then a else α j
theorem KWn_up (K : Nat → ClassId) (α : Nat → Nat → Nat) (σL : gS) (n : Nat) (a : Nat → Nat) : KWn K (aUp α n a) σL (n + 1) = KWn K α σL n ++ LW K a σL := by
  unfold KWn
  rw [List.range_succ, List.map_append, List.flatten_append]
  have e : (List.range n).map (fun i => LW K (aUp α n a i) σL) = (List.range n).map (fun i => LW K (α i) σL) := by
    refine List.map_congr_left (fun i hi => ?_)
    have : i ≠ n := by have := List.mem_range.mp hi; omega
    simp [aUp, this]
  rw [e]
  simp [aUp]
theorem rfA_up (N i o : Nat) (α : Nat → Nat → Nat) (a : Nat → Nat) {j : Int32} (hj : j.toNatClampNeg = i) : (N, (.inr (.inr (.inr (.inr (va_up (fun j => if j < i then some (α (o + j) 9) else none) j.toNatClampNeg (some (a 9)))))) : (Nat → Int32) ⊕ (Nat → Int64) ⊕ (Nat → UInt32) ⊕ (Nat → UInt64) ⊕ (Nat → Option Nat))) = rfA N (i + 1) o (aUp α (o + i) a) := by
  have e : va_up (fun j => if j < i then some (α (o + j) 9) else none) j.toNatClampNeg (some (a 9)) = fun j => if j < i + 1 then some (aUp α (o + i) a (o + j) 9) else none := by
    funext z
    unfold va_up aUp
    rw [hj]
    by_cases e : z = i
    · subst e; simp
    · by_cases h : z < i
      · have h2 : z < i + 1 := by omega
        have h3 : o + z ≠ o + i := by omega
        simp [e, h, h2]
      · have h2 : ¬ z < i + 1 := by omega
        simp [e, h, h2]
  unfold rfA
  rw [e]
theorem rfA_keep (N i o n : Nat) (α : Nat → Nat → Nat) (a : Nat → Nat) (h : o + i ≤ n) : rfA N i o (aUp α n a) = rfA N i o α := by
  unfold rfA aUp
  have : (fun j => if j < i then some ((if o + j = n then a else α (o + j)) 9) else none) = fun j => if j < i then some (α (o + j) 9) else none := by
    funext j
    by_cases h1 : j < i
    · have : o + j ≠ n := by omega
      simp [h1, this]
    · simp [h1]
  rw [this]
set_option maxHeartbeats 8000000 in
set_option maxRecDepth 100000 in
theorem mX3_init (l : Launch) (D : va_G) (K : Nat → ClassId) (h0 : Nat) (σL : gS) (hL : fX1_clear (sL zS) = some σL) : cM l yX3_init wsX3_init { frames := 4, cells := 312, slots := 3681, locals := 192 } D (gT K) [(h0, .inr (3, [.null, .null, .null, .null, .int 0, .null, .null]))] [.ref h0] (fun w1 => ∃ (b t x y : Nat → Nat) (α : Nat → Nat → Nat), b 0 = h0 ∧ w1 = SW K b t x y α (zS, zS, σL, σL, (fun _ => σL), fun i => i)) := by
  refine mk_c (nL := 2) (cc := cX3_init) (by decide) rfl rfl (Nat.le_of_ble_eq_true rfl) (fun g C => ?_)
  refine c_sub C (lv' := [(0, .ref h0)]) [0] rfl ?_
  refine c_aload_n C 0 dX3_init_0 rfl rfl ?_
  refine c_objInit C (List.mem_of_getElem? (i := 1) rfl) (List.mem_of_getElem? (i := 2) rfl) (List.mem_of_getElem? (i := 3) rfl) (Nat.le_of_ble_eq_true rfl) (Nat.le_of_ble_eq_true rfl) dX3_init_1 ?_
  refine c_aload_n C 0 dX3_init_4 rfl rfl ?_
  refine c_new C (ci := 2) (fs := [.null, .int 0, .int 0, .int 0, .null, .int 0, .int 0, .int 0, .int 0, .int 0, .int 0, .int 0]) (fun _ h => List.mem_cons_of_mem _ (List.mem_append_left _ (List.mem_append_left _ (List.mem_append_left _ (List.mem_append_right _ h))))) tyX2 tyX2_ok (List.mem_of_getElem? (i := 4) rfl) (List.mem_of_getElem? (i := 5) rfl) (List.mem_of_getElem? (i := 6) rfl) rfl (fun j hj => by rcases (show j = 0 ∨ j = 1 ∨ j = 2 ∨ j = 3 ∨ j = 4 ∨ j = 5 ∨ j = 6 ∨ j = 7 ∨ j = 8 ∨ j = 9 ∨ j = 10 ∨ j = 11 by omega) with rfl | rfl | rfl | rfl | rfl | rfl | rfl | rfl | rfl | rfl | rfl | rfl <;> rfl) (Nat.le_of_ble_eq_true rfl) (Nat.le_of_ble_eq_true rfl) dX3_init_5 (fun q => ?_)
  refine c_dup C dX3_init_8 rfl ?_
  refine c_initN C (host := RX3) (wr := [(h0, .inr (3, [.null, .null, .null, .null, .int 0, .null, .null]))]) (mX2_init l D K q) rfl gX3_init_X2_init_n11 rfl (List.mem_of_getElem? (i := 6) rfl) (List.mem_of_getElem? (i := 18) rfl) rfl (List.mem_of_getElem? (i := 0) rfl) (by decide +kernel) ⟨Nat.le_of_ble_eq_true rfl, Nat.le_of_ble_eq_true rfl⟩ (Nat.le_of_ble_eq_true rfl) (Nat.le_of_ble_eq_true rfl) (Nat.le_of_ble_eq_true rfl) dX3_init_9 (fun w1 hw1 => ?_)
  obtain ⟨t, rfl, rfl⟩ := hw1
  refine c_putF C (ty := .object "ShoutGates$Text") (ws' := [(h0, .inr (3, [.ref (t 0), .null, .null, .null, .int 0, .null, .null]))] ++ TW K t zS) (fun _ h => List.mem_cons_of_mem _ (List.mem_append_left _ (List.mem_append_left _ (List.mem_append_right _ h)))) tyX3 tyX3_ok nmX3 0 rfl rfl 0 (by decide) (List.mem_of_getElem? (i := 7) rfl) rfl rfl rfl (by decide +kernel) rfl rfl (Nat.le_of_ble_eq_true rfl) rfl dX3_init_12 ?_
  refine c_aload_n C 0 dX3_init_15 rfl rfl ?_
  refine c_new C (ci := 1) (fs := [.null, .null, .null, .null, .null, .null, .null, .null, .int 0, .int 0, .int 0, .int 0, .int 0, .int 0, .int 0]) (fun _ h => List.mem_cons_of_mem _ (List.mem_append_left _ (List.mem_append_right _ h))) tyX1 tyX1_ok (List.mem_of_getElem? (i := 8) rfl) (List.mem_of_getElem? (i := 9) rfl) (List.mem_of_getElem? (i := 10) rfl) rfl (fun j hj => by rcases (show j = 0 ∨ j = 1 ∨ j = 2 ∨ j = 3 ∨ j = 4 ∨ j = 5 ∨ j = 6 ∨ j = 7 ∨ j = 8 ∨ j = 9 ∨ j = 10 ∨ j = 11 ∨ j = 12 ∨ j = 13 ∨ j = 14 by omega) with rfl | rfl | rfl | rfl | rfl | rfl | rfl | rfl | rfl | rfl | rfl | rfl | rfl | rfl | rfl <;> rfl) (Nat.le_of_ble_eq_true rfl) (Nat.le_of_ble_eq_true rfl) dX3_init_16 (fun q => ?_)
  refine c_dup C dX3_init_19 rfl ?_
  refine c_init C (host := RX3) (wr := [(h0, .inr (3, [.ref (t 0), .null, .null, .null, .int 0, .null, .null]))] ++ TW K t zS) (mX1_init l D K q σL hL) rfl gX3_init_X1_init rfl (List.mem_of_getElem? (i := 10) rfl) (List.mem_of_getElem? (i := 36) rfl) rfl (List.mem_of_getElem? (i := 35) rfl) (by decide +kernel) ⟨Nat.le_of_ble_eq_true rfl, Nat.le_of_ble_eq_true rfl⟩ (Nat.le_of_ble_eq_true rfl) (Nat.le_of_ble_eq_true rfl) (Nat.le_of_ble_eq_true rfl) dX3_init_20 (fun w1 hw1 => ?_)
  obtain ⟨x, rfl, rfl⟩ := hw1
  refine c_putF C (ty := .object "ShoutGates$Library") (ws' := ([(h0, .inr (3, [.ref (t 0), .ref (x 9), .null, .null, .int 0, .null, .null]))] ++ TW K t zS) ++ LW K x σL) (fun _ h => List.mem_cons_of_mem _ (List.mem_append_left _ (List.mem_append_left _ (List.mem_append_right _ h)))) tyX3 tyX3_ok nmX3 0 rfl rfl 1 (by decide) (List.mem_of_getElem? (i := 11) rfl) rfl rfl rfl (by decide +kernel) rfl rfl (Nat.le_of_ble_eq_true rfl) rfl dX3_init_23 ?_
  refine c_aload_n C 0 dX3_init_26 rfl rfl ?_
  refine c_new C (ci := 1) (fs := [.null, .null, .null, .null, .null, .null, .null, .null, .int 0, .int 0, .int 0, .int 0, .int 0, .int 0, .int 0]) (fun _ h => List.mem_cons_of_mem _ (List.mem_append_left _ (List.mem_append_right _ h))) tyX1 tyX1_ok (List.mem_of_getElem? (i := 8) rfl) (List.mem_of_getElem? (i := 9) rfl) (List.mem_of_getElem? (i := 10) rfl) rfl (fun j hj => by rcases (show j = 0 ∨ j = 1 ∨ j = 2 ∨ j = 3 ∨ j = 4 ∨ j = 5 ∨ j = 6 ∨ j = 7 ∨ j = 8 ∨ j = 9 ∨ j = 10 ∨ j = 11 ∨ j = 12 ∨ j = 13 ∨ j = 14 by omega) with rfl | rfl | rfl | rfl | rfl | rfl | rfl | rfl | rfl | rfl | rfl | rfl | rfl | rfl | rfl <;> rfl) (Nat.le_of_ble_eq_true rfl) (Nat.le_of_ble_eq_true rfl) dX3_init_27 (fun q => ?_)
  refine c_dup C dX3_init_30 rfl ?_
  refine c_init C (host := RX3) (wr := ([(h0, .inr (3, [.ref (t 0), .ref (x 9), .null, .null, .int 0, .null, .null]))] ++ TW K t zS) ++ LW K x σL) (mX1_init l D K q σL hL) rfl gX3_init_X1_init rfl (List.mem_of_getElem? (i := 10) rfl) (List.mem_of_getElem? (i := 36) rfl) rfl (List.mem_of_getElem? (i := 35) rfl) (by decide +kernel) ⟨Nat.le_of_ble_eq_true rfl, Nat.le_of_ble_eq_true rfl⟩ (Nat.le_of_ble_eq_true rfl) (Nat.le_of_ble_eq_true rfl) (Nat.le_of_ble_eq_true rfl) dX3_init_31 (fun w1 hw1 => ?_)
  obtain ⟨y, rfl, rfl⟩ := hw1
  refine c_putF C (ty := .object "ShoutGates$Library") (ws' := (([(h0, .inr (3, [.ref (t 0), .ref (x 9), .ref (y 9), .null, .int 0, .null, .null]))] ++ TW K t zS) ++ LW K x σL) ++ LW K y σL) (fun _ h => List.mem_cons_of_mem _ (List.mem_append_left _ (List.mem_append_left _ (List.mem_append_right _ h)))) tyX3 tyX3_ok nmX3 0 rfl rfl 2 (by decide) (List.mem_of_getElem? (i := 12) rfl) rfl rfl rfl (by decide +kernel) rfl rfl (Nat.le_of_ble_eq_true rfl) rfl dX3_init_34 ?_
  have cont2 : ∀ (b1 b2 : Nat) (α : Nat → Nat → Nat) (k n : Nat), k = 277 + 17 * 2 → n = 3287 + 196 * 2 → g ((b2, .inl (K 3, rfA 2 2 14 (α))) :: (b1, .inl (K 3, rfA 14 14 0 (α))) :: (h0, .inr (3, [.ref (t 0), .ref (x 9), .ref (y 9), .ref b1, .int 0, .ref b2, .null])) :: (TW K t zS ++ (LW K x σL ++ (LW K y σL ++ KWn K (α) σL (14 + 2))))) k n 112 [(1, .int (nI 2)), (0, .ref h0)] [] := by
    intro b1 b2 α k n hk hn
    refine c_aload_n C 1 dX3_init_112 rfl rfl ?_
    refine c_iconst C (v := 2) dX3_init_113 ic_2 ?_
    refine c_newa C (ty := .boolean) (N := 2) 1 (List.mem_of_getElem? (i := 16) rfl) rfl rfl rfl (by decide) (by decide) (Nat.le_of_ble_eq_true rfl) (by show _ ≤ 312; omega) (by show _ ≤ 3681; omega) dX3_init_114 (fun b3 => ?_)
    refine c_permP C (ws' := (b3, .inl (K 1, 2, .inl (fun _ => 0))) :: (b2, .inl (K 3, rfA 2 2 14 (α))) :: (b1, .inl (K 3, rfA 14 14 0 (α))) :: (h0, .inr (3, [.ref (t 0), .ref (x 9), .ref (y 9), .ref b1, .int 0, .ref b2, .null])) :: (TW K t zS ++ (LW K x σL ++ (LW K y σL ++ KWn K (α) σL (14 + 2))))) ?_ ?_
    · exact List.perm_append_comm
    refine c_putF C (ty := .array .boolean) (ws' := (b3, .inl (K 1, 2, .inl (fun _ => 0))) :: (b2, .inl (K 3, rfA 2 2 14 α)) :: (b1, .inl (K 3, rfA 14 14 0 α)) :: (h0, .inr (3, [.ref (t 0), .ref (x 9), .ref (y 9), .ref b1, .int 0, .ref b2, .ref b3])) :: (TW K t zS ++ (LW K x σL ++ (LW K y σL ++ KWn K α σL 16)))) (fun _ h => List.mem_cons_of_mem _ (List.mem_append_left _ (List.mem_append_left _ (List.mem_append_right _ h)))) tyX3 tyX3_ok nmX3 3 rfl rfl 6 (by decide) (List.mem_of_getElem? (i := 17) rfl) rfl rfl rfl (by decide +kernel) rfl rfl (Nat.le_of_ble_eq_true rfl) rfl dX3_init_116 ?_
    refine c_cong C (ws' := (b3, .inl (K 1, 2, .inl (fun _ => 0))) :: (b2, .inl (K 3, 2, .inr (.inr (.inr (.inr (fun i => some (α (14 + i) 9))))))) :: (b1, .inl (K 3, 14, .inr (.inr (.inr (.inr (fun i => some (α i 9))))))) :: (h0, .inr (3, [.ref (t 0), .ref (x 9), .ref (y 9), .ref b1, .int 0, .ref b2, .ref b3])) :: (TW K t zS ++ (LW K x σL ++ (LW K y σL ++ KWn K α σL 16)))) (fun H hP => ?_) rfl ?_
    · rw [va_P_mem] at hP ⊢
      have f1 := rfA_full (K 3) 2 14 α
      have f2 := rfA_full (K 3) 14 0 α
      simp only [Nat.zero_add] at f2
      intro q hq
      rcases List.mem_cons.mp hq with rfl | hq
      · exact hP _ List.mem_cons_self
      · rcases List.mem_cons.mp hq with rfl | hq
        · have := hP (b2, .inl (K 3, rfA 2 2 14 α)) (List.mem_cons_of_mem _ List.mem_cons_self)
          show H[b2]? = some (vp_cell _ _)
          rw [← f1]; exact this
        · rcases List.mem_cons.mp hq with rfl | hq
          · have := hP (b1, .inl (K 3, rfA 14 14 0 α)) (List.mem_cons_of_mem _ (List.mem_cons_of_mem _ List.mem_cons_self))
            show H[b1]? = some (vp_cell _ _)
            rw [← f2]; exact this
          · exact hP q (List.mem_cons_of_mem _ (List.mem_cons_of_mem _ (List.mem_cons_of_mem _ hq)))
    refine c_permP C (ws' := SW K (fun i => [h0, b1, b2, b3].getD i 0) t x y α (zS, zS, σL, σL, (fun _ => σL), fun i => i)) ?_ ?_
    · exact List.Perm.append_right (TW K t zS ++ (LW K x σL ++ (LW K y σL ++ KWn K α σL 16))) (List.reverse_perm (SWt K (fun i => [h0, b1, b2, b3].getD i 0) t x y α zS (fun i => i)))
    exact c_ret C ⟨(fun i => [h0, b1, b2, b3].getD i 0), t, x, y, α, rfl, rfl⟩ (by show _ ≤ 312; omega) (by show _ ≤ 3681; omega) dX3_init_119
  have loop2 : ∀ (b1 b2 m i : Nat) (α : Nat → Nat → Nat), i + m = 2 → ∀ (k n : Nat), k = 277 + 17 * i → n = 3287 + 196 * i → g ((b2, .inl (K 3, rfA 2 i 14 (α))) :: (b1, .inl (K 3, rfA 14 14 0 (α))) :: (h0, .inr (3, [.ref (t 0), .ref (x 9), .ref (y 9), .ref b1, .int 0, .ref b2, .null])) :: (TW K t zS ++ (LW K x σL ++ (LW K y σL ++ KWn K (α) σL (14 + i))))) k n 88 [(1, .int (nI i)), (0, .ref h0)] [] := by
    intro b1 b2 m
    induction m with
    | zero =>
      intro i α hi k n hk hn
      have hi : i = 2 := by omega
      subst hi
      refine c_iload_n C 0 dX3_init_88 rfl rfl ?_
      refine c_iconst C (v := 2) dX3_init_89 ic_2 ?_
      refine c_icmp_ge C 112 dX3_init_90 (by decide) (fun _ => ?_) (fun h => absurd (show nI 2 ≤ nI 2 from nI_le (Nat.le_refl _) (by decide)) h)
      exact cont2 b1 b2 α k n hk hn
    | succ m ih =>
      intro i α hi k n hk hn
      refine c_iload_n C 0 dX3_init_88 rfl rfl ?_
      refine c_iconst C (v := 2) dX3_init_89 ic_2 ?_
      refine c_icmp_ge C 112 dX3_init_90 (by decide) (fun h => absurd h (nI_ge (a := i) (b := 2) (by omega) (by decide))) (fun _ => ?_)
      refine c_aload_n C 1 dX3_init_93 rfl rfl ?_
      refine c_get C (fun _ h => List.mem_cons_of_mem _ (List.mem_append_left _ (List.mem_append_left _ (List.mem_append_right _ h)))) 2 rfl rfl 5 (by decide) (List.mem_of_getElem? (i := 15) rfl) rfl rfl dX3_init_94 ?_
      refine c_iload_n C 0 dX3_init_97 rfl rfl ?_
      refine c_new C (ci := 1) (fs := [.null, .null, .null, .null, .null, .null, .null, .null, .int 0, .int 0, .int 0, .int 0, .int 0, .int 0, .int 0]) (fun _ h => List.mem_cons_of_mem _ (List.mem_append_left _ (List.mem_append_right _ h))) tyX1 tyX1_ok (List.mem_of_getElem? (i := 8) rfl) (List.mem_of_getElem? (i := 9) rfl) (List.mem_of_getElem? (i := 10) rfl) rfl (fun j hj => by rcases (show j = 0 ∨ j = 1 ∨ j = 2 ∨ j = 3 ∨ j = 4 ∨ j = 5 ∨ j = 6 ∨ j = 7 ∨ j = 8 ∨ j = 9 ∨ j = 10 ∨ j = 11 ∨ j = 12 ∨ j = 13 ∨ j = 14 by omega) with rfl | rfl | rfl | rfl | rfl | rfl | rfl | rfl | rfl | rfl | rfl | rfl | rfl | rfl | rfl <;> rfl) (by show _ ≤ 312; omega) (by show _ ≤ 3681; omega) dX3_init_98 (fun q => ?_)
      refine c_dup C dX3_init_101 rfl ?_
      refine c_init C (host := RX3) (wr := (b2, .inl (K 3, rfA 2 i 14 (α))) :: (b1, .inl (K 3, rfA 14 14 0 (α))) :: (h0, .inr (3, [.ref (t 0), .ref (x 9), .ref (y 9), .ref b1, .int 0, .ref b2, .null])) :: (TW K t zS ++ (LW K x σL ++ (LW K y σL ++ KWn K (α) σL (14 + i))))) (mX1_init l D K q σL hL) rfl gX3_init_X1_init rfl (List.mem_of_getElem? (i := 10) rfl) (List.mem_of_getElem? (i := 36) rfl) rfl (List.mem_of_getElem? (i := 35) rfl) (by decide +kernel) ⟨Nat.le_of_ble_eq_true rfl, Nat.le_of_ble_eq_true rfl⟩ (by show _ ≤ 312; simp only []; omega) (by show _ ≤ 3681; simp only []; omega) (Nat.le_of_ble_eq_true rfl) dX3_init_102 (fun w1 hw1 => ?_)
      obtain ⟨a, rfl, rfl⟩ := hw1
      refine c_aast C (ws' := (b2, .inl (K 3, rfA 2 (i + 1) 14 (aUp α (14 + i) a))) :: (b1, .inl (K 3, rfA 14 14 0 (aUp α (14 + i) a))) :: (h0, .inr (3, [.ref (t 0), .ref (x 9), .ref (y 9), .ref b1, .int 0, .ref b2, .null])) :: (TW K t zS ++ (LW K x σL ++ (LW K y σL ++ KWn K (aUp α (14 + i) a) σL (14 + (i + 1)))))) 0 3 rfl rfl ?_ (vp_in_nI (by omega) (by decide)) ?_ dX3_init_105 ?_
      · have h1 : ∃ fs : List Value, (a 9, (.inr (1, fs) : va_E)) ∈ LW K a σL := ⟨_, List.mem_of_getElem? (i := 9) rfl⟩
        obtain ⟨fs, h1⟩ := h1
        obtain ⟨p, hp⟩ := List.getElem?_of_mem (List.mem_append_right ((b2, .inl (K 3, rfA 2 i 14 (α))) :: (b1, .inl (K 3, rfA 14 14 0 (α))) :: (h0, .inr (3, [.ref (t 0), .ref (x 9), .ref (y 9), .ref b1, .int 0, .ref b2, .null])) :: (TW K t zS ++ (LW K x σL ++ (LW K y σL ++ KWn K (α) σL (14 + i))))) h1)
        exact ⟨p, fs, hp⟩
      · have e1 := rfA_up 2 i 14 α a (j := nI i) (nI_clamp (by omega))
        have e2 := KWn_up K α σL (14 + i) a
        have e3 := rfA_keep 14 14 0 (14 + i) α a (by omega)
        rw [show 14 + (i + 1) = 14 + i + 1 from rfl, e2, e3, ← e1]
        simp [rfA]
      refine c_iinc C (w := nI (i + 1)) (lv' := [(1, .int (nI (i + 1))), (0, .ref h0)]) 0 dX3_init_106 rfl (nI_1 i) (by decide) rfl ?_
      refine c_goto C 88 dX3_init_109 (by decide) ?_
      exact ih (i + 1) _ (by omega) _ _ (by rw [hk]; show _ + 1 + 16 = _; omega) (by rw [hn]; show _ + 15 + 181 = _; omega)
  have cont1 : ∀ (b1 : Nat) (α : Nat → Nat → Nat) (k n : Nat), k = 38 + 17 * 14 → n = 541 + 196 * 14 → g ((b1, .inl (K 3, rfA 14 14 0 (α))) :: (h0, .inr (3, [.ref (t 0), .ref (x 9), .ref (y 9), .ref b1, .int 0, .null, .null])) :: (TW K t zS ++ (LW K x σL ++ (LW K y σL ++ KWn K (α) σL (14))))) k n 73 [(1, .int (nI 14)), (0, .ref h0)] [] := by
    intro b1 α k n hk hn
    refine c_aload_n C 1 dX3_init_73 rfl rfl ?_
    refine c_iconst C (v := 0) dX3_init_74 ic_0 ?_
    refine c_put C (ty := .int) (ws' := (b1, .inl (K 3, rfA 14 14 0 (α))) :: (h0, .inr (3, [.ref (t 0), .ref (x 9), .ref (y 9), .ref b1, .int 0, .null, .null])) :: (TW K t zS ++ (LW K x σL ++ (LW K y σL ++ KWn K (α) σL (14))))) (fun _ h => List.mem_cons_of_mem _ (List.mem_append_left _ (List.mem_append_left _ (List.mem_append_right _ h)))) tyX3 tyX3_ok nmX3 1 rfl rfl 4 (by decide) (List.mem_of_getElem? (i := 14) rfl) rfl rfl (by decide +kernel) rfl rfl (Nat.le_of_ble_eq_true rfl) rfl dX3_init_75 ?_
    refine c_aload_n C 1 dX3_init_78 rfl rfl ?_
    refine c_iconst C (v := 2) dX3_init_79 ic_2 ?_
    refine c_newq C (C0 := RX1) (N := 2) 3 rfl (List.mem_of_getElem? (i := 8) rfl) rfl (by decide) (by decide) (Nat.le_of_ble_eq_true rfl) (by show _ ≤ 312; omega) (by show _ ≤ 3681; omega) dX3_init_80 (fun b2 => ?_)
    refine c_permP C (ws' := (b2, .inl (K 3, rfA 2 0 14 α)) :: (b1, .inl (K 3, rfA 14 14 0 α)) :: (h0, .inr (3, [.ref (t 0), .ref (x 9), .ref (y 9), .ref b1, .int 0, .null, .null])) :: (TW K t zS ++ (LW K x σL ++ (LW K y σL ++ KWn K α σL (14 + 0))))) ?_ ?_
    · have e : ((b2, .inl (K 3, rfA 2 0 14 α)) : Nat × va_E) = (b2, .inl (K 3, 2, .inr (.inr (.inr (.inr (fun _ => none)))))) := by simp [rfA]
      rw [e]
      exact List.perm_append_comm
    refine c_putF C (ty := .array (.object "ShoutGates$Library")) (ws' := (b2, .inl (K 3, rfA 2 0 14 (α))) :: (b1, .inl (K 3, rfA 14 14 0 (α))) :: (h0, .inr (3, [.ref (t 0), .ref (x 9), .ref (y 9), .ref b1, .int 0, .ref b2, .null])) :: (TW K t zS ++ (LW K x σL ++ (LW K y σL ++ KWn K (α) σL (14 + 0))))) (fun _ h => List.mem_cons_of_mem _ (List.mem_append_left _ (List.mem_append_left _ (List.mem_append_right _ h)))) tyX3 tyX3_ok nmX3 2 rfl rfl 5 (by decide) (List.mem_of_getElem? (i := 15) rfl) rfl rfl rfl (by decide +kernel) rfl rfl (Nat.le_of_ble_eq_true rfl) rfl dX3_init_83 ?_
    refine c_iconst C (v := 0) dX3_init_86 ic_0 ?_
    refine c_istore_n C (lv' := [(1, .int (nI 0)), (0, .ref h0)]) dX3_init_87 rfl (by decide) rfl ?_
    exact loop2 b1 b2 2 0 α rfl _ _ (by omega) (by omega)
  have loop1 : ∀ (b1 m i : Nat) (α : Nat → Nat → Nat), i + m = 14 → ∀ (k n : Nat), k = 38 + 17 * i → n = 541 + 196 * i → g ((b1, .inl (K 3, rfA 14 i 0 (α))) :: (h0, .inr (3, [.ref (t 0), .ref (x 9), .ref (y 9), .ref b1, .int 0, .null, .null])) :: (TW K t zS ++ (LW K x σL ++ (LW K y σL ++ KWn K (α) σL (i))))) k n 48 [(1, .int (nI i)), (0, .ref h0)] [] := by
    intro b1 m
    induction m with
    | zero =>
      intro i α hi k n hk hn
      have hi : i = 14 := by omega
      subst hi
      refine c_iload_n C 0 dX3_init_48 rfl rfl ?_
      refine c_bipush C (v := 14) dX3_init_49 (by decide) ?_
      refine c_icmp_ge C 73 dX3_init_51 (by decide) (fun _ => ?_) (fun h => absurd (show nI 14 ≤ nI 14 from nI_le (Nat.le_refl _) (by decide)) h)
      exact cont1 b1 α k n hk hn
    | succ m ih =>
      intro i α hi k n hk hn
      refine c_iload_n C 0 dX3_init_48 rfl rfl ?_
      refine c_bipush C (v := 14) dX3_init_49 (by decide) ?_
      refine c_icmp_ge C 73 dX3_init_51 (by decide) (fun h => absurd h (nI_ge (a := i) (b := 14) (by omega) (by decide))) (fun _ => ?_)
      refine c_aload_n C 1 dX3_init_54 rfl rfl ?_
      refine c_get C (fun _ h => List.mem_cons_of_mem _ (List.mem_append_left _ (List.mem_append_left _ (List.mem_append_right _ h)))) 1 rfl rfl 3 (by decide) (List.mem_of_getElem? (i := 13) rfl) rfl rfl dX3_init_55 ?_
      refine c_iload_n C 0 dX3_init_58 rfl rfl ?_
      refine c_new C (ci := 1) (fs := [.null, .null, .null, .null, .null, .null, .null, .null, .int 0, .int 0, .int 0, .int 0, .int 0, .int 0, .int 0]) (fun _ h => List.mem_cons_of_mem _ (List.mem_append_left _ (List.mem_append_right _ h))) tyX1 tyX1_ok (List.mem_of_getElem? (i := 8) rfl) (List.mem_of_getElem? (i := 9) rfl) (List.mem_of_getElem? (i := 10) rfl) rfl (fun j hj => by rcases (show j = 0 ∨ j = 1 ∨ j = 2 ∨ j = 3 ∨ j = 4 ∨ j = 5 ∨ j = 6 ∨ j = 7 ∨ j = 8 ∨ j = 9 ∨ j = 10 ∨ j = 11 ∨ j = 12 ∨ j = 13 ∨ j = 14 by omega) with rfl | rfl | rfl | rfl | rfl | rfl | rfl | rfl | rfl | rfl | rfl | rfl | rfl | rfl | rfl <;> rfl) (by show _ ≤ 312; omega) (by show _ ≤ 3681; omega) dX3_init_59 (fun q => ?_)
      refine c_dup C dX3_init_62 rfl ?_
      refine c_init C (host := RX3) (wr := (b1, .inl (K 3, rfA 14 i 0 (α))) :: (h0, .inr (3, [.ref (t 0), .ref (x 9), .ref (y 9), .ref b1, .int 0, .null, .null])) :: (TW K t zS ++ (LW K x σL ++ (LW K y σL ++ KWn K (α) σL (i))))) (mX1_init l D K q σL hL) rfl gX3_init_X1_init rfl (List.mem_of_getElem? (i := 10) rfl) (List.mem_of_getElem? (i := 36) rfl) rfl (List.mem_of_getElem? (i := 35) rfl) (by decide +kernel) ⟨Nat.le_of_ble_eq_true rfl, Nat.le_of_ble_eq_true rfl⟩ (by show _ ≤ 312; simp only []; omega) (by show _ ≤ 3681; simp only []; omega) (Nat.le_of_ble_eq_true rfl) dX3_init_63 (fun w1 hw1 => ?_)
      obtain ⟨a, rfl, rfl⟩ := hw1
      refine c_aast C (ws' := (b1, .inl (K 3, rfA 14 (i + 1) 0 (aUp α (i) a))) :: (h0, .inr (3, [.ref (t 0), .ref (x 9), .ref (y 9), .ref b1, .int 0, .null, .null])) :: (TW K t zS ++ (LW K x σL ++ (LW K y σL ++ KWn K (aUp α (i) a) σL ((i + 1)))))) 0 3 rfl rfl ?_ (vp_in_nI (by omega) (by decide)) ?_ dX3_init_66 ?_
      · have h1 : ∃ fs : List Value, (a 9, (.inr (1, fs) : va_E)) ∈ LW K a σL := ⟨_, List.mem_of_getElem? (i := 9) rfl⟩
        obtain ⟨fs, h1⟩ := h1
        obtain ⟨p, hp⟩ := List.getElem?_of_mem (List.mem_append_right ((b1, .inl (K 3, rfA 14 i 0 (α))) :: (h0, .inr (3, [.ref (t 0), .ref (x 9), .ref (y 9), .ref b1, .int 0, .null, .null])) :: (TW K t zS ++ (LW K x σL ++ (LW K y σL ++ KWn K (α) σL (i))))) h1)
        exact ⟨p, fs, hp⟩
      · have e1 := rfA_up 14 i 0 α a (j := nI i) (nI_clamp (by omega))
        have e2 := KWn_up K α σL i a
        rw [e2]; simp only [Nat.zero_add] at e1; rw [← e1]
        simp [rfA]
      refine c_iinc C (w := nI (i + 1)) (lv' := [(1, .int (nI (i + 1))), (0, .ref h0)]) 0 dX3_init_67 rfl (nI_1 i) (by decide) rfl ?_
      refine c_goto C 48 dX3_init_70 (by decide) ?_
      exact ih (i + 1) _ (by omega) _ _ (by rw [hk]; show _ + 1 + 16 = _; omega) (by rw [hn]; show _ + 15 + 181 = _; omega)
  obtain ⟨α0, -⟩ : ∃ α0 : Nat → Nat → Nat, α0 = fun _ _ => 0 := ⟨_, rfl⟩
  refine c_aload_n C 0 dX3_init_37 rfl rfl ?_
  refine c_bipush C (v := 14) dX3_init_38 (by decide) ?_
  refine c_newq C (C0 := RX1) (N := 14) 3 rfl (List.mem_of_getElem? (i := 8) rfl) rfl (by decide) (by decide) (Nat.le_of_ble_eq_true rfl) (Nat.le_of_ble_eq_true rfl) (Nat.le_of_ble_eq_true rfl) dX3_init_40 (fun b1 => ?_)
  refine c_permP C (ws' := (b1, .inl (K 3, rfA 14 0 0 α0)) :: (h0, .inr (3, [.ref (t 0), .ref (x 9), .ref (y 9), .null, .int 0, .null, .null])) :: (TW K t zS ++ (LW K x σL ++ (LW K y σL ++ KWn K α0 σL 0)))) ?_ ?_
  · have e : ((b1, .inl (K 3, rfA 14 0 0 α0)) : Nat × va_E) = (b1, .inl (K 3, 14, .inr (.inr (.inr (.inr (fun _ => none)))))) := by simp [rfA]
    rw [e]
    have e2 : KWn K α0 σL 0 = [] := rfl
    rw [e2, List.append_nil]
    refine (List.perm_append_comm).trans ?_
    simp
  refine c_putF C (ty := .array (.object "ShoutGates$Library")) (ws' := (b1, .inl (K 3, rfA 14 0 0 α0)) :: (h0, .inr (3, [.ref (t 0), .ref (x 9), .ref (y 9), .ref b1, .int 0, .null, .null])) :: (TW K t zS ++ (LW K x σL ++ (LW K y σL ++ KWn K α0 σL 0)))) (fun _ h => List.mem_cons_of_mem _ (List.mem_append_left _ (List.mem_append_left _ (List.mem_append_right _ h)))) tyX3 tyX3_ok nmX3 1 rfl rfl 3 (by decide) (List.mem_of_getElem? (i := 13) rfl) rfl rfl rfl (by decide +kernel) rfl rfl (Nat.le_of_ble_eq_true rfl) rfl dX3_init_43 ?_
  refine c_iconst C (v := 0) dX3_init_46 ic_0 ?_
  refine c_istore_n C (lv' := [(1, .int (nI 0)), (0, .ref h0)]) dX3_init_47 rfl (by decide) rfl ?_
  exact loop1 b1 14 0 α0 rfl _ _ rfl rfl
