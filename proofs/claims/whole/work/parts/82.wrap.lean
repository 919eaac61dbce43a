/-! THE LAW'S STATIC CALLS: each calls the class, keeps the answer in out[0], turns what is thrown into a number -/
theorem vin01 : vp_in 0 1 := vp_in_nI (n := 0) (N := 1) (by decide) (by decide)
abbrev tysL (K : Nat → ClassId) : List (ClassId × FieldType) := gT K
def WW (K : Nat → ClassId) (b t x y : Nat → Nat) (α : Nat → Nat → Nat) (o : Nat) (σ : ST × (Nat → Int64)) : va_W := (o, .inl (K 4, 1, .inr (.inl σ.2))) :: SW K b t x y α σ.1
theorem KW_addr (K : Nat → ClassId) (α : Nat → Nat → Nat) (Λ Λ' : Nat → gS) : (KW K α Λ).map Prod.fst = (KW K α Λ').map Prod.fst := by
  unfold KW
  rw [List.map_flatten, List.map_flatten, List.map_map, List.map_map]
  congr 1
section WR
variable {K : Nat → ClassId} {b t x y : Nat → Nat} {α : Nat → Nat → Nat} {o : Nat} {D : va_G}
theorem SW_addr (σ σ' : ST) : (SW K b t x y α σ).map Prod.fst = (SW K b t x y α σ').map Prod.fst := by
  unfold SW
  simp only [List.map_append]
  rw [KW_addr K α σ.2.2.2.2.1 σ'.2.2.2.2.1, LW_addr K x σ.2.2.1 σ'.2.2.1, LW_addr K y σ.2.2.2.1 σ'.2.2.2.1, TW_addr K t σ.2.1 σ'.2.1]
  rfl
theorem WWe (σ : ST × (Nat → Int64)) : gE D (WW K b t x y α o) (SW K b t x y α) σ σ.1 (fun u => (u, σ.2)) := gE.mid [(o, .inl (K 4, 1, .inr (.inl σ.2)))] [] (by simp [WW]) (fun _ => by simp [WW]) (fun u => SW_addr u σ.1)
def gN (U : State) : Prop := va_Nc (exN 2) (exN 1) U ∧ va_Nc (exN 2) (exN 3) U ∧ va_Nc (exN 1) (exN 3) U
theorem gN.moved {u U : State} (hvm : u.vm.Alike U.vm) (h : gN u) : gN U := ⟨h.1.moved hvm, h.2.1.moved hvm, h.2.2.moved hvm⟩
def wPre (D : va_G) (K : Nat → ClassId) (b t x y : Nat → Nat) (α : Nat → Nat → Nat) (o : Nat) (argv : List Value) (σ : ST × (Nat → Int64)) (sz : Nat) : Array Value → State → Prop := va_Pc argv (fun U => U.heap.size = sz ∧ va_P D vwCl (WW K b t x y α o σ) U.heap ∧ gK D (tysL K) U ∧ va_D (fun _ => True) (WW K b t x y α o σ) ∧ gX (va_A (WW K b t x y α o σ) sz) U U.heap ∧ gN U)
theorem wPre_blind {argv : List Value} {σ : ST × (Nat → Int64)} {sz : Nat} : FrameBlind (wPre D K b t x y α o argv σ sz) := by
  intro a U g mk q
  obtain ⟨q0, q1, qP, qK, qD, qX, qN⟩ := q
  exact ⟨q0, q1, qP, gK.same (u := U) (U := U.calling g mk a) rfl qK, qD, gX.same (u := U) (U := U.calling g mk a) rfl qX, gN.moved (u := U) (U := U.calling g mk a) (Vm.Alike.refl _) qN⟩
def wOut (cd : Nat → Nat) (σ : ST × (Nat → Int64)) (r : (Nat × ST) ⊕ (Int32 × ST)) (v : Int32) (u : ST × (Nat → Int64)) : Prop := match r with
  | .inl q => v = nI (cd q.1) ∧ u = (q.2, σ.2)
  | .inr q => v = 0 ∧ u = (q.2, vp_updL σ.2 0 q.1.toInt64)
def wEnd (D : va_G) (K : Nat → ClassId) (b t x y : Nat → Nat) (α : Nat → Nat → Nat) (o : Nat) (σ : ST × (Nat → Int64)) (sz : Nat) (u : ST × (Nat → Int64)) (U : State) : Prop := va_P D vwCl (WW K b t x y α o u) U.heap ∧ gK D (tysL K) U ∧ va_D (va_A (WW K b t x y α o σ) sz) (WW K b t x y α o u)
def wM (l : Launch) (yw : MethodName) (ws : List Cond) (fr lo : Nat) (D : va_G) (K : Nat → ClassId) (b t x y : Nat → Nat) (α : Nat → Nat → Nat) (o : Nat) (argv : List Value) (σ : ST × (Nat → Int64)) (cd : Nat → Nat) (r : (Nat × ST) ⊕ (Int32 × ST)) : Prop :=
  ∀ sz, Met l yw ws { frames := fr, cells := 1, slots := 6, locals := lo } (wPre D K b t x y α o argv σ sz) (va_Qi (wOut cd σ r) (wEnd D K b t x y α o σ sz) (va_A (WW K b t x y α o σ) sz)) 1 6 (va_A (WW K b t x y α o σ) sz)
theorem gK_sub {U : State} (h : gK D (tysL K) U) : gK D (gT K) U := h
theorem SW_0 (σ : ST) : ∃ fs, (SW K b t x y α σ)[0]? = some (b 0, .inr (3, fs)) := ⟨_, rfl⟩
section BODY
variable {p : Program} {l : Launch} {e : Env} {s : State} {m : MethodId} {args : Array Value} {below : List Frame} {meth : Method} {c : Code} {fr lo : Nat} {cc : ByteArray} {Ts : List Cond} {nL : Nat} {σ : ST × (Nat → Int64)} {cd : Nat → Nat} {r : (Nat × ST) ⊕ (Int32 × ST)}
/-- the call of the class inside the static method: an answer is stored and 0 comes back; a throw goes to its handler -/
theorem wr_call (hx : p.tables.exec = Jvm.exec) (hb : c.code = cc) (hml : c.maxLocals = nL) (hr : meth.sig.returnType = some .int) (hown : s.vm.findClass RL = some m.cls) (hts : ∀ w ∈ Ts, w.before args s = true) (hlocks : meth.locks = false) (hK : gK D (tysL K) s) (hP : va_P D vwCl (WW K b t x y α o σ) s.heap) (hD : va_D (va_A (WW K b t x y α o σ) s.heap.size) (WW K b t x y α o σ)) (hX : gX (va_A (WW K b t x y α o σ) s.heap.size) s s.heap)
    {yC : MethodName} {wsC wsC' : List Cond} {bytes : ByteArray} {maxL index n frC loC pc tgt : Nat} {off : Int} {As : List Value} {ls : Array Slot}
    (hM : gMx l yC wsC frC loC D (gT K) (SW K b t x y α) (.ref (b 0) :: As) σ.1 r) (hG : GoodIn Ts (wsV RL index RX3 yC wsC)) (hw : wsC = Cond.code yC bytes maxL (some .int) :: wsC')
    (hd : yC.cls = RX3 ∧ yC.cls ≠ "java/lang/invoke/MethodHandle" ∧ yC.cls ≠ "java/lang/invoke/VarHandle" ∧ (parseMethodDescriptor yC.desc).map (fun d => d.parameters.length) = some n) (hR : frC + 1 ≤ fr ∧ 8 + (maxL + 11) + loC ≤ lo) (hn : As.length = n) (hls : ls.size = nL)
    (d1 : decode cc pc = .ok (.invokevirtual index, 3)) (d2 : decode cc (pc + 3) = .ok (.i2l, 1)) (d3 : decode cc (pc + 4) = .ok (.lastore, 1)) (d4 : decode cc (pc + 5) = .ok (.goto off, 3)) (ht : ((pc + 5 : Nat) : Int) + off = (tgt : Int)) (d5 : decode cc tgt = .ok (.iconst 0, 1)) (d6 : decode cc (tgt + 1) = .ok (.ireturn, 1))
    (hexc : ∀ (q : Nat × ST), r = .inl q → ∀ (H1 : Heap) (locs1 : List Loc) (q9 : Addr) (ce : Cell), H1[q9]? = some ce → ce.vm = .none → s.vm.findClass (exN q.1) = some ce.cls → va_P D vwCl (WW K b t x y α o (q.2, σ.2)) H1 → va_D (va_A (WW K b t x y α o σ) s.heap.size) (WW K b t x y α o (q.2, σ.2)) → va_S (va_A (WW K b t x y α o σ) s.heap.size) s.heap H1 locs1 → vx_W p l e { frames := fr, cells := 1, slots := 6, locals := lo } s m args below meth c H1 locs1 1 6 (MQ below (va_Qi (wOut cd σ r) (wEnd D K b t x y α o σ s.heap.size) (va_A (WW K b t x y α o σ) s.heap.size)) args s 1 6 (va_A (WW K b t x y α o σ) s.heap.size)) (F0 m pc ls [.int 0, .ref o]) q9) :
    W p l e { frames := fr, cells := 1, slots := 6, locals := lo } s m args below meth c s.heap [] 0 0 (MQ below (va_Qi (wOut cd σ r) (wEnd D K b t x y α o σ s.heap.size) (va_A (WW K b t x y α o σ) s.heap.size)) args s 1 6 (va_A (WW K b t x y α o σ) s.heap.size)) (F0 m pc ls (As.reverse ++ .ref (b 0) :: [.int 0, .ref o])) := by
  have hA : ∀ q, s.heap.size ≤ q → va_A (WW K b t x y α o σ) s.heap.size q := fun q h => Or.inr h
  obtain ⟨hPc, hDc, hFc, hback⟩ := WWe σ _ s.heap hP hD hA
  obtain ⟨fs, he⟩ := SW_0 (K := K) (b := b) (t := t) (x := x) (y := y) (α := α) σ.1
  have hKs := gK_sub hK
  cases r with
  | inr q =>
    refine va_calli (va_runV (As := As) (rest := [.int 0, .ref o]) ⟨hx, hb, hml, hown, hts⟩ (hM s.heap.size) (cwV n hts hG hw rfl rfl hd hR) ⟨gPre_blind, va_recv hKs.1 hPc (ci := 3) (q0 := 0) rfl he, fun U hU hW9 => ⟨rfl, by rw [hU], by rw [hU]; exact hPc, hKs.movedW hW9, hDc.weaken (fun _ _ _ _ => trivial)⟩⟩ rfl hn hls rfl (lv_room (Nat.le_of_ble_eq_true rfl)) d1 ⟨Nat.zero_le _, Nat.zero_le _⟩) va_S.rf (fun q _ h => hFc q h) hFc (fun v u t1 H1 locs1 ht1 hvm hw9 hB hz1 hk1 hS1 => ?_)
    obtain ⟨hP1, hK1, hD1⟩ := hB
    rw [ht1] at hP1
    obtain ⟨hP2, hD2⟩ := hback H1 u hk1 hP1 hD1
    subst hw9
    refine lv_i2l hx hb d2 rfl ?_
    refine va_last (q0 := 0) (t0 := 4) hx hb hK.1 hP2 hD2 hS1 rfl rfl vin01 d3 (fun H2 locs2 hP3 hD3 hS3 => ?_)
    refine lv_goto hx hb d4 ht ?_
    refine lv_iconst (v := 0) hx hb d5 rfl ?_
    refine W.widen (k := 1) (n := 6) (by omega) (by omega) ?_
    exact W.iret hx hb hr (fun t2 ht2 hW2 => ⟨⟨0, (u, vp_updL σ.2 0 v.toInt64), rfl, ⟨rfl, rfl⟩, by rw [ht2]; exact hP3, hK.movedW hW2, hD3⟩, hS3.F ht2⟩) hS3.2.2 d6
  | inl q =>
    refine vx_calli (vx_runV (As := As) (rest := [.int 0, .ref o]) ⟨hx, hb, hml, hown, hts⟩ (hM s.heap.size) (cwV n hts hG hw rfl rfl hd hR) ⟨gPreX_blind, va_recv hKs.1 hPc (ci := 3) (q0 := 0) rfl he, fun U hU hW9 => ⟨rfl, by rw [hU], by rw [hU]; exact hPc, hKs.movedW hW9, hDc.weaken (fun _ _ _ _ => trivial), by rw [hU]; exact (hX.movedW hW9).narrow hFc⟩⟩ rfl hn hls rfl (lv_room (Nat.le_of_ble_eq_true rfl)) d1 ⟨Nat.le_refl _, Nat.le_refl _⟩) va_S.rf (fun _ _ h => h.elim) hFc (fun q9 _ h => hFc q9 h)
      (fun E ce q9 u t1 H1 locs1 ht1 hvm hpx hB hz hk hS1 hce hcv hcl => ?_) (fun v u t1 H1 locs1 ht1 hvm hw9 => hw9.elim)
    obtain ⟨hE, hP1, hD1⟩ := hB
    rw [ht1] at hP1
    subst hE
    subst hpx
    obtain ⟨hP2, hD2⟩ := hback H1 q.2 hk hP1 hD1
    exact hexc q rfl H1 locs1 q9 ce hce hcv hcl hP2 hD2 hS1
/-- a handler's end -/
theorem wr_hand (hx : p.tables.exec = Jvm.exec) (hb : c.code = cc) (hr : meth.sig.returnType = some .int) (hlocks : meth.locks = false) (hK : gK D (tysL K) s) {q : Nat × ST} {k : Nat} (hq : r = .inl q) (hk : cd q.1 = k) {H1 : Heap} {locs1 : List Loc} (hP : va_P D vwCl (WW K b t x y α o (q.2, σ.2)) H1) (hD : va_D (va_A (WW K b t x y α o σ) s.heap.size) (WW K b t x y α o (q.2, σ.2))) (hS : va_S (va_A (WW K b t x y α o σ) s.heap.size) s.heap H1 locs1) {pc : Nat} {ls : Array Slot} {z : Int} (hz : Int32.ofInt z = nI k) (d5 : decode cc pc = .ok (.iconst z, 1)) (d6 : decode cc (pc + 1) = .ok (.ireturn, 1)) :
    W p l e { frames := fr, cells := 1, slots := 6, locals := lo } s m args below meth c H1 locs1 1 6 (MQ below (va_Qi (wOut cd σ r) (wEnd D K b t x y α o σ s.heap.size) (va_A (WW K b t x y α o σ) s.heap.size)) args s 1 6 (va_A (WW K b t x y α o σ) s.heap.size)) (F0 m pc ls []) := by
  subst hq
  subst hk
  refine lv_iconst (v := nI (cd q.1)) hx hb d5 hz ?_
  exact W.iret hx hb hr (fun t2 ht2 hW2 => ⟨⟨nI (cd q.1), (q.2, σ.2), rfl, ⟨rfl, rfl⟩, by rw [ht2]; exact hP, hK.movedW hW2, hD⟩, hS.F ht2⟩) hS.2.2 d6
end BODY
end WR
