/-! THE LAW'S BODY: its pieces -/
section LAWS
def LWd (K : Nat → ClassId) (b t x y : Nat → Nat) (α : Nat → Nat → Nat) (o : Nat) (a : Nat → Nat) (σ : (ST × (Nat → Int64)) × gS) : va_W := WW K b t x y α o σ.1 ++ MW K a σ.2
variable {p : Program} {l : Launch} {e : Env} {s : State} {m : MethodId} {below : List Frame} {meth : Method} {c : Code} {b0 L : Nat} {xs : Nat → Int32} {D : va_G} {K : Nat → ClassId} {b t x y : Nat → Nat} {α : Nat → Nat → Nat} {o : Nat} {a : Nat → Nat}
theorem WW_addr (σ σ' : ST × (Nat → Int64)) : (WW K b t x y α o σ).map Prod.fst = (WW K b t x y α o σ').map Prod.fst := by
  unfold WW
  rw [List.map_cons, List.map_cons, SW_addr σ.1 σ'.1]
theorem LWe_w (σ : (ST × (Nat → Int64)) × gS) : gE D (LWd K b t x y α o a) (WW K b t x y α o) σ σ.1 (fun u => (u, σ.2)) := gE.mid [] (MW K a σ.2) rfl (fun _ => rfl) (fun u => WW_addr u σ.1)
theorem LWe_m (σ : (ST × (Nat → Int64)) × gS) : gE D (LWd K b t x y α o a) (MW K a) σ σ.2 (fun u => (σ.1, u)) := gE.mid (WW K b t x y α o σ.1) [] (by simp [LWd]) (fun _ => by simp [LWd]) (fun _ => rfl)
theorem LWe_s (σ : (ST × (Nat → Int64)) × gS) : gE D (LWd K b t x y α o a) (SW K b t x y α) σ σ.1.1 (fun u => ((u, σ.1.2), σ.2)) := gE.mid [(o, .inl (K 4, 1, .inr (.inl σ.1.2)))] (MW K a σ.2) rfl (fun _ => rfl) (fun u => SW_addr u σ.1.1)
def lwC (p : Program) (l : Launch) (s : State) (m : MethodId) (meth : Method) (c : Code) (b0 L : Nat) (xs : Nat → Int32) (D : va_G) (K : Nat → ClassId) : Prop := p.tables.exec = Jvm.exec ∧ c.code = code ∧ meth.sig.returnType = ret ∧ c.maxLocals = 7 ∧ s.vm.findClass RL = some m.cls ∧ (∀ w ∈ wsL_law, w.before #[Value.ref b0] s = true) ∧ va_X b0 L xs s s.heap ∧ b0 < s.heap.size ∧ meth.locks = false ∧ gK D (gT K) s ∧ gX (fun q => s.heap.size ≤ q) s s.heap ∧ gN s ∧ l.stackTraces = false
def lwH (s : State) (D : va_G) (K : Nat → ClassId) (b t x y : Nat → Nat) (α : Nat → Nat → Nat) (o : Nat) (a : Nat → Nat) (σ : (ST × (Nat → Int64)) × gS) (H : Heap) (locs : List Loc) : Prop := va_P D vwCl (LWd K b t x y α o a σ) H ∧ va_D (fun q => s.heap.size ≤ q) (LWd K b t x y α o a σ) ∧ va_S (fun q => s.heap.size ≤ q) s.heap H locs
abbrev lwG (p : Program) (l : Launch) (e : Env) (s : State) (m : MethodId) (b0 : Nat) (below : List Frame) (meth : Method) (c : Code) (H : Heap) (locs : List Loc) (k n : Nat) (pc : Nat) (ls : Array Slot) (st : List Value) : Prop := W p l e room_1 s m #[Value.ref b0] below meth c H locs k n (lw_Z below #[Value.ref b0] s) (F0 m pc ls st)
variable {σ : (ST × (Nat → Int64)) × gS} {H : Heap} {locs : List Loc} {k n pc : Nat} {ls : Array Slot} {st : List Value}
theorem lw_static (C : lwC p l s m meth c b0 L xs D K) (h : lwH s D K b t x y α o a σ H locs) {yw : MethodName} {ws ws' : List Cond} {fr lo na index maxL : Nat} {hh : List (Nat × Nat × Nat × Nat)} {bytes : ByteArray} {cd : Nat → Nat} {r : (Nat × ST) ⊕ (Int32 × ST)} {argv : List Value}
    (hM : wM l yw ws fr lo D K b t x y α o argv σ.1 cd r) (hG : GoodIn wsL_law (va_wsS RL index yw ws)) (hw : ws = Cond.codeWith yw bytes maxL (some .int) hh :: ws') (hd : yw.cls ≠ "java/lang/invoke/MethodHandle" ∧ yw.cls ≠ "java/lang/invoke/VarHandle" ∧ (parseMethodDescriptor yw.desc).map (fun d => d.parameters.length) = some na) (hR : fr + 1 ≤ 11 ∧ 8 + (maxL + 11) + lo ≤ 424) (hn : argv.length = na) (hst : st = argv.reverse) (hls : ls.size = 7) (d : decode cL_law pc = .ok (.invokestatic index, 3)) (hk : k + 1 ≤ 601024) (hs : n + 6 ≤ 7293034)
    (kk : ∀ (v : Int32) (u : ST × (Nat → Int64)) (H1 : Heap) (locs1 : List Loc), wOut cd σ.1 r v u → lwH s D K b t x y α o a (u, σ.2) H1 locs1 → lwG p l e s m b0 below meth c H1 locs1 (k + 1) (n + 6) (pc + 3) ls [.int v]) : lwG p l e s m b0 below meth c H locs k n pc ls st := by
  obtain ⟨hx, hb, hr, hml, hown, hts, hX, hbl, hlocks, hK, hgX, hN, hfl⟩ := C
  obtain ⟨hP, hD, hS⟩ := h
  obtain ⟨hPc, hDc, hFc, hback⟩ := LWe_w σ _ H hP hD (fun q h => Nat.le_trans hS.1 h)
  subst hst
  refine va_calli (vx_runSW (As := argv) (rest := []) ⟨hx, hb, hml, hown, hts⟩ (hM H.size) (vx_cwSW na hts hG hw rfl rfl hd hR) ⟨wPre_blind, fun U hU hW9 => ⟨rfl, by rw [hU], by rw [hU]; exact hPc, hK.movedW hW9, hDc.weaken (fun _ _ _ _ => trivial), by rw [hU]; exact ((hgX.kept hS.2.1).movedW hW9).narrow hFc, hN.moved hW9.alike⟩⟩ rfl hn hls (by rw [List.append_nil]) (lv_room (Nat.le_of_ble_eq_true rfl)) d ⟨hk, hs⟩) hS (fun q _ h => hFc q h) hFc (fun v u t1 H1 locs1 ht1 hvm hw9 hB hz1 hk1 hS1 => ?_)
  obtain ⟨hP1, hK1, hD1⟩ := hB
  rw [ht1] at hP1
  obtain ⟨hP2, hD2⟩ := hback H1 u hk1 hP1 hD1
  exact kk v u H1 locs1 hw9 ⟨hP2, hD2, hS1⟩
theorem lw_model (C : lwC p l s m meth c b0 L xs D K) (h : lwH s D K b t x y α o a σ H locs) {ym : MethodName} {ws ws' : List Cond} {rmc : Room} {na index maxL : Nat} {rt : Option FieldType} {bytes : ByteArray} {r : Int32 × gS} {As rest : List Value}
    (hM : gMi l ym ws rmc D (gT K) (MW K a) (.ref (a 0) :: As) σ.2 r) (hG : GoodIn wsL_law (wsV RL index RX4 ym ws)) (hw : ws = Cond.code ym bytes maxL rt :: ws') (hd : ym.cls = RX4 ∧ ym.cls ≠ "java/lang/invoke/MethodHandle" ∧ ym.cls ≠ "java/lang/invoke/VarHandle" ∧ (parseMethodDescriptor ym.desc).map (fun d => d.parameters.length) = some na) (hR : rmc.frames + 1 ≤ 11 ∧ 8 + (maxL + 11) + rmc.locals ≤ 424 ∧ rmc.cells = 0 ∧ rmc.slots = 0) (hn : As.length = na) (hst : st = As.reverse ++ .ref (a 0) :: rest) (hls : ls.size = 7) (hW : (rest.map fun v => v.category).sum ≤ 8) (d : decode cL_law pc = .ok (.invokevirtual index, 3)) (hk : k ≤ 601024) (hs : n ≤ 7293034)
    (kk : ∀ (H1 : Heap) (locs1 : List Loc), lwH s D K b t x y α o a (σ.1, r.2) H1 locs1 → lwG p l e s m b0 below meth c H1 locs1 k n (pc + 3) ls (.int r.1 :: rest)) : lwG p l e s m b0 below meth c H locs k n pc ls st := by
  obtain ⟨hx, hb, hr, hml, hown, hts, hX, hbl, hlocks, hK, hgX, hN, hfl⟩ := C
  obtain ⟨hP, hD, hS⟩ := h
  obtain ⟨hPc, hDc, hFc, hback⟩ := LWe_m σ _ H hP hD (fun q h => Nat.le_trans hS.1 h)
  subst hst
  refine va_calli (va_runV (As := As) (rest := rest) ⟨hx, hb, hml, hown, hts⟩ (hM H.size) (cwV na hts hG hw hR.2.2.1 hR.2.2.2 hd ⟨hR.1, hR.2.1⟩) ⟨gPre_blind, va_recv hK.1 hPc (ci := 4) (q0 := 0) rfl rfl, fun U hU hW9 => ⟨rfl, by rw [hU], by rw [hU]; exact hPc, hK.movedW hW9, hDc.weaken (fun _ _ _ _ => trivial)⟩⟩ rfl hn hls rfl (lv_room hW) d ⟨hk, hs⟩) hS (fun q _ h => hFc q h) hFc (fun v u t1 H1 locs1 ht1 hvm hw9 hB hz1 hk1 hS1 => ?_)
  obtain ⟨hP1, hK1, hD1⟩ := hB
  rw [ht1] at hP1
  obtain ⟨hP2, hD2⟩ := hback H1 u hk1 hP1 hD1
  have g := kk H1 locs1
  rw [hw9] at g
  exact g ⟨hP2, hD2, hS1⟩
theorem lw_class (C : lwC p l s m meth c b0 L xs D K) (h : lwH s D K b t x y α o a σ H locs) {ym : MethodName} {ws ws' : List Cond} {rmc : Room} {na index maxL : Nat} {rt : Option FieldType} {bytes : ByteArray} {r : Int32 × ST} {As rest : List Value}
    (hM : gMi l ym ws rmc D (gT K) (SW K b t x y α) (.ref (b 0) :: As) σ.1.1 r) (hG : GoodIn wsL_law (wsV RL index RX3 ym ws)) (hw : ws = Cond.code ym bytes maxL rt :: ws') (hd : ym.cls = RX3 ∧ ym.cls ≠ "java/lang/invoke/MethodHandle" ∧ ym.cls ≠ "java/lang/invoke/VarHandle" ∧ (parseMethodDescriptor ym.desc).map (fun d => d.parameters.length) = some na) (hR : rmc.frames + 1 ≤ 11 ∧ 8 + (maxL + 11) + rmc.locals ≤ 424 ∧ rmc.cells = 0 ∧ rmc.slots = 0) (hn : As.length = na) (hst : st = As.reverse ++ .ref (b 0) :: rest) (hls : ls.size = 7) (hW : (rest.map fun v => v.category).sum ≤ 8) (d : decode cL_law pc = .ok (.invokevirtual index, 3)) (hk : k ≤ 601024) (hs : n ≤ 7293034)
    (kk : ∀ (H1 : Heap) (locs1 : List Loc), lwH s D K b t x y α o a ((r.2, σ.1.2), σ.2) H1 locs1 → lwG p l e s m b0 below meth c H1 locs1 k n (pc + 3) ls (.int r.1 :: rest)) : lwG p l e s m b0 below meth c H locs k n pc ls st := by
  obtain ⟨hx, hb, hr, hml, hown, hts, hX, hbl, hlocks, hK, hgX, hN, hfl⟩ := C
  obtain ⟨hP, hD, hS⟩ := h
  obtain ⟨hPc, hDc, hFc, hback⟩ := LWe_s σ _ H hP hD (fun q h => Nat.le_trans hS.1 h)
  obtain ⟨fs, he⟩ := SW_0 (K := K) (b := b) (t := t) (x := x) (y := y) (α := α) σ.1.1
  subst hst
  refine va_calli (va_runV (As := As) (rest := rest) ⟨hx, hb, hml, hown, hts⟩ (hM H.size) (cwV na hts hG hw hR.2.2.1 hR.2.2.2 hd ⟨hR.1, hR.2.1⟩) ⟨gPre_blind, va_recv hK.1 hPc (ci := 3) (q0 := 0) rfl he, fun U hU hW9 => ⟨rfl, by rw [hU], by rw [hU]; exact hPc, hK.movedW hW9, hDc.weaken (fun _ _ _ _ => trivial)⟩⟩ rfl hn hls rfl (lv_room hW) d ⟨hk, hs⟩) hS (fun q _ h => hFc q h) hFc (fun v u t1 H1 locs1 ht1 hvm hw9 hB hz1 hk1 hS1 => ?_)
  obtain ⟨hP1, hK1, hD1⟩ := hB
  rw [ht1] at hP1
  obtain ⟨hP2, hD2⟩ := hback H1 u hk1 hP1 hD1
  have g := kk H1 locs1
  rw [hw9] at g
  exact g ⟨hP2, hD2, hS1⟩
/-- script[i + j] onto the stack -/
theorem lw_arg (C : lwC p l s m meth c b0 L xs D K) (h : lwH s D K b t x y α o a σ H locs) {i j : Nat} (h0 : ls[0]? = some (.val (.ref b0))) (h4 : ls[4]? = some (.val (.int (nI i)))) (hij : i + j < L) (hL : L ≤ 2048) {z : Int} (hz : Int32.ofInt z = nI j)
    (d0 : decode cL_law pc = .ok (.aload_n 0, 1)) (d1 : decode cL_law (pc + 1) = .ok (.iload 4, 2)) (d2 : decode cL_law (pc + 3) = .ok (.iconst z, 1)) (d3 : decode cL_law (pc + 4) = .ok (.iadd, 1)) (d4 : decode cL_law (pc + 5) = .ok (.iaload, 1))
    (kk : lwG p l e s m b0 below meth c H locs k n (pc + 6) ls (.int (xs (i + j)) :: st)) : lwG p l e s m b0 below meth c H locs k n pc ls st := by
  obtain ⟨hx, hb, hr, hml, hown, hts, hX, hbl, hlocks, hK, hgX, hN, hfl⟩ := C
  refine lv_aload_n hx hb d0 rfl h0 ?_
  refine lv_iload hx hb d1 h4 ?_
  refine lv_iconst hx hb d2 hz ?_
  refine lv_iadd hx hb d3 ?_
  rw [nI_add]
  refine va_sld hx hb hX hbl (Nat.not_le.mpr hbl) h.2.2 (vp_in_nI hij (by omega)) d4 ?_
  rw [cl_nI (by omega)]
  exact kk
theorem cmp_self (v : Int64) : lg_cmp v v = 0 := by
  unfold lg_cmp
  simp
/-- the comparison of thrown and of answers -/
theorem lw_tail (C : lwC p l s m meth c b0 L xs D K) (h : lwH s D K b t x y α o a σ H locs) {w v : Int32} {i : Nat} {tE : Nat} {off : Int} (hl : lv_has ls 7 [(6, .int v), (5, .int w), (0, .ref b0), (1, .ref (b 0)), (2, .ref (a 0)), (3, .ref o), (4, .int (nI i))]) (hw : σ.2 0 0 = w) (hv : w = 0 → σ.1.2 0 = v.toInt64) (hk : k ≤ 601024) (hs : n ≤ 7293034) (hE : tE = pc + 28)
    (d0 : decode cL_law pc = .ok (.aload_n 2, 1)) (d1 : decode cL_law (pc + 1) = .ok (.invokevirtual 100, 3)) (d4 : decode cL_law (pc + 4) = .ok (.iload 5, 2)) (d6 : decode cL_law (pc + 6) = .ok (.if_icmp .eq 5, 3)) (d11 : decode cL_law (pc + 11) = .ok (.iload 5, 2)) (d13 : decode cL_law (pc + 13) = .ok (.ifCond .ne 15, 3)) (d16 : decode cL_law (pc + 16) = .ok (.aload_n 3, 1)) (d17 : decode cL_law (pc + 17) = .ok (.iconst 0, 1)) (d18 : decode cL_law (pc + 18) = .ok (.laload, 1)) (d19 : decode cL_law (pc + 19) = .ok (.iload 6, 2)) (d21 : decode cL_law (pc + 21) = .ok (.i2l, 1)) (d22 : decode cL_law (pc + 22) = .ok (.lcmp, 1)) (d23 : decode cL_law (pc + 23) = .ok (.ifCond .eq 5, 3)) (d28 : decode cL_law tE = .ok (.goto off, 3)) (hoff : (tE : Int) + off = 1659)
    (kk : ∀ (H1 : Heap) (locs1 : List Loc), lwH s D K b t x y α o a σ H1 locs1 → lwG p l e s m b0 below meth c H1 locs1 k n 1659 ls []) : lwG p l e s m b0 below meth c H locs k n pc ls [] := by
  obtain ⟨hx, hb, hr, hml, hown, hts, hX, hbl, hlocks, hK, hgX, hN, hfl⟩ := id C
  refine lv_aload_n hx hb d0 rfl (lv_at hl 4 rfl) ?_
  refine lw_model C h (mX4_thrown l D K a σ.2 (σ.2 0 0, σ.2) rfl) gL_law_X4_thrown rfl (by decide) ⟨Nat.le_of_ble_eq_true rfl, Nat.le_of_ble_eq_true rfl, rfl, rfl⟩ rfl rfl hl.1 (Nat.le_of_ble_eq_true rfl) d1 hk hs (fun H1 locs1 h1 => ?_)
  rw [hw]
  refine lv_iload hx hb d4 (lv_at hl 1 rfl) ?_
  refine lv_icmp_eq (tgt := pc + 11) hx hb d6 (by omega) (fun _ => ?_) (fun q => absurd rfl q)
  refine lv_iload hx hb d11 (lv_at hl 1 rfl) ?_
  refine lv_if_ne (tgt := tE) hx hb d13 (by omega) (fun _ => ?_) (fun q => ?_)
  · exact lv_goto (tgt := 1659) hx hb d28 hoff (kk H1 locs1 h1)
  · refine lv_aload_n hx hb d16 rfl (lv_at hl 5 rfl) ?_
    refine lv_iconst (v := 0) hx hb d17 rfl ?_
    refine va_lald (q0 := 0) (t0 := 4) hx hb hK.1 h1.1 rfl rfl vin01 d18 ?_
    refine lv_iload hx hb d19 (lv_at hl 0 rfl) ?_
    refine lv_i2l hx hb d21 rfl ?_
    rw [cl_0, hv q]
    refine W.lcmp hx hb d22 ?_
    rw [cmp_self]
    refine lv_if_eq (tgt := tE) hx hb d23 (by omega) (fun _ => ?_) (fun q => absurd rfl q)
    exact lv_goto (tgt := 1659) hx hb d28 hoff (kk H1 locs1 h1)
/-- a call of the class and of the reference, told by what the static method leaves -/
theorem Step_res {T : Nat} {cd : Nat → Nat} {x : Option ((Nat × ST) ⊕ (Int32 × ST))} {y : Option (Int32 × gS)} (hcd : ∀ n, cd n ≤ 2) (h : Step T cd x y) : ∃ (res : (Nat × ST) ⊕ (Int32 × ST)) (v : Int32) (s' : ST) (r' : gS), x = some res ∧ y = some (v, r') ∧ Top T s' r' ∧ (∀ q, res = .inl q → 1 ≤ cd q.1) ∧ ∀ (w : Int32) (σ u : ST × (Nat → Int64)), wOut cd σ res w u → u.1 = s' ∧ r' 0 0 = w ∧ (w = 0 → u.2 0 = v.toInt64) := by
  obtain ⟨s', v, r', hy, hT, ⟨n, hx, h1, h0⟩ | ⟨hx, h0⟩⟩ := h
  · refine ⟨.inl (n, s'), v, s', r', hx, hy, hT, fun q hq => by cases hq; exact h1, fun w σ u hw => ?_⟩
    obtain ⟨e1, e2⟩ := hw
    subst e1
    subst e2
    refine ⟨rfl, h0, fun q => ?_⟩
    have h2 := hcd n
    have h3 : cd n = 0 := (nI_inj (a := cd n) (b := 0) (by omega) (by omega)).mp q
    have h1 : 1 ≤ cd n := h1
    omega
  · refine ⟨.inr (v, s'), v, s', r', hx, hy, hT, (fun q hq => by cases hq), fun w σ u hw => ?_⟩
    obtain ⟨e1, e2⟩ := hw
    subst e1
    subst e2
    exact ⟨rfl, h0, fun _ => (pk_uLs : vp_updL σ.2 0 v.toInt64 0 = v.toInt64)⟩
theorem cdL_le (a b n : Nat) : cdL a b n ≤ 2 := by
  unfold cdL
  by_cases q : n = a
  · rw [if_pos q]; omega
  · rw [if_neg q]
    by_cases w : n = b
    · rw [if_pos w]; omega
    · rw [if_neg w]; omega
/-- script[i + j] != 0 onto the stack -/
theorem lw_argB (C : lwC p l s m meth c b0 L xs D K) (h : lwH s D K b t x y α o a σ H locs) {i j : Nat} (h0 : ls[0]? = some (.val (.ref b0))) (h4 : ls[4]? = some (.val (.int (nI i)))) (hij : i + j < L) (hL : L ≤ 2048) {z : Int} (hz : Int32.ofInt z = nI j)
    (d0 : decode cL_law pc = .ok (.aload_n 0, 1)) (d1 : decode cL_law (pc + 1) = .ok (.iload 4, 2)) (d2 : decode cL_law (pc + 3) = .ok (.iconst z, 1)) (d3 : decode cL_law (pc + 4) = .ok (.iadd, 1)) (d4 : decode cL_law (pc + 5) = .ok (.iaload, 1)) (d6 : decode cL_law (pc + 6) = .ok (.ifCond .eq 7, 3)) (d9 : decode cL_law (pc + 9) = .ok (.iconst 1, 1)) (d10 : decode cL_law (pc + 10) = .ok (.goto 4, 3)) (d13 : decode cL_law (pc + 13) = .ok (.iconst 0, 1))
    (kk : lwG p l e s m b0 below meth c H locs k n (pc + 14) ls (.int (bI (!decide (xs (i + j) = 0))) :: st)) : lwG p l e s m b0 below meth c H locs k n pc ls st := by
  refine lw_arg C h h0 h4 hij hL hz d0 d1 d2 d3 d4 ?_
  obtain ⟨hx, hb, hr, hml, hown, hts, hX, hbl, hlocks, hK, hgX, hN, hfl⟩ := C
  refine lv_if_eq (tgt := pc + 13) hx hb d6 (by omega) (fun q => ?_) (fun q => ?_)
  · rw [decide_eq_true q] at kk
    exact lv_iconst (v := 0) hx hb d13 rfl kk
  · rw [decide_eq_false q] at kk
    refine lv_iconst (v := 1) hx hb d9 rfl ?_
    exact lv_goto (tgt := pc + 14) hx hb d10 (by omega) kk
def lwLong (u w : Int32) : Int64 := (u.toInt64 <<< ((32 : Int32).toInt64 &&& 63)) ||| (w.toInt64 &&& (4294967295 : Int64))
/-- (long) script[i + j] << 32 | script[i + j2] & 0xFFFFFFFFL onto the stack -/
theorem lw_argL (C : lwC p l s m meth c b0 L xs D K) (h : lwH s D K b t x y α o a σ H locs) {i j j2 : Nat} (h0 : ls[0]? = some (.val (.ref b0))) (h4 : ls[4]? = some (.val (.int (nI i)))) (hij : i + j < L) (hij2 : i + j2 < L) (hL : L ≤ 2048) {z z2 : Int} (hz : Int32.ofInt z = nI j) (hz2 : Int32.ofInt z2 = nI j2) (hcst : (Cond.constantLong RL 172 (4294967295 : Int64)) ∈ wsL_law)
    (d0 : decode cL_law pc = .ok (.aload_n 0, 1)) (d1 : decode cL_law (pc + 1) = .ok (.iload 4, 2)) (d2 : decode cL_law (pc + 3) = .ok (.iconst z, 1)) (d3 : decode cL_law (pc + 4) = .ok (.iadd, 1)) (d4 : decode cL_law (pc + 5) = .ok (.iaload, 1)) (d6 : decode cL_law (pc + 6) = .ok (.i2l, 1)) (d7 : decode cL_law (pc + 7) = .ok (.bipush 32, 2)) (d9 : decode cL_law (pc + 9) = .ok (.lshl, 1))
    (f0 : decode cL_law (pc + 10) = .ok (.aload_n 0, 1)) (f1 : decode cL_law (pc + 10 + 1) = .ok (.iload 4, 2)) (f2 : decode cL_law (pc + 10 + 3) = .ok (.iconst z2, 1)) (f3 : decode cL_law (pc + 10 + 4) = .ok (.iadd, 1)) (f4 : decode cL_law (pc + 10 + 5) = .ok (.iaload, 1)) (f6 : decode cL_law (pc + 10 + 6) = .ok (.i2l, 1)) (f7 : decode cL_law (pc + 10 + 7) = .ok (.ldc2_w 172, 3)) (f10 : decode cL_law (pc + 10 + 10) = .ok (.land, 1)) (f11 : decode cL_law (pc + 10 + 11) = .ok (.lor, 1))
    (kk : lwG p l e s m b0 below meth c H locs k n (pc + 10 + 12) ls (.long (lwLong (xs (i + j)) (xs (i + j2))) :: st)) : lwG p l e s m b0 below meth c H locs k n pc ls st := by
  obtain ⟨hx, hb, hr, hml, hown, hts, hX, hbl, hlocks, hK, hgX, hN, hfl⟩ := id C
  refine lw_arg C h h0 h4 hij hL hz d0 d1 d2 d3 d4 ?_
  refine lv_i2l hx hb d6 rfl ?_
  refine lv_bipush (v := 32) hx hb d7 rfl ?_
  refine lv_lshl hx hb d9 rfl ?_
  refine lw_arg C h h0 h4 hij2 hL hz2 f0 f1 f2 f3 f4 ?_
  refine lv_i2l hx hb f6 rfl ?_
  refine lv_ldc2 hx hb hown (hts _ hcst) f7 ?_
  refine lv_land hx hb f10 ?_
  refine lv_lor hx hb f11 ?_
  exact kk
def lwCase (p : Program) (l : Launch) (e : Env) (s : State) (m : MethodId) (b0 : Nat) (below : List Frame) (meth : Method) (c : Code) (L : Nat) (D : va_G) (K : Nat → ClassId) (b t x y : Nat → Nat) (α : Nat → Nat → Nat) (o : Nat) (a : Nat → Nat) (pc0 : Nat) : Prop :=
  ∀ (T : Nat) (s1 : ST) (f : Nat → Int64) (r1 : gS) (H : Heap) (locs : List Loc) (ls : Array Slot) (i k n : Nat), Top T s1 r1 → T + 3 < 2147483648 → i + 3 < L → lwH s D K b t x y α o a ((s1, f), r1) H locs → lv_has ls 7 [(0, .ref b0), (1, .ref (b 0)), (2, .ref (a 0)), (3, .ref o), (4, .int (nI i))] → k + 1 ≤ 601024 → n + 6 ≤ 7293034 →
    (∀ (T' : Nat) (s2 : ST) (f2 : Nat → Int64) (r2 : gS) (H2 : Heap) (locs2 : List Loc) (ls2 : Array Slot), Top T' s2 r2 → T' ≤ T + 4000 → lwH s D K b t x y α o a ((s2, f2), r2) H2 locs2 → lv_has ls2 7 [(0, .ref b0), (1, .ref (b 0)), (2, .ref (a 0)), (3, .ref o), (4, .int (nI i))] → lwG p l e s m b0 below meth c H2 locs2 (k + 1) (n + 6) 1659 ls2 []) → lwG p l e s m b0 below meth c H locs k n pc0 ls []
end LAWS
