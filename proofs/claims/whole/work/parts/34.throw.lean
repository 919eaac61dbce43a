/-! OUR JUDGEMENT for methods that may throw: the answer is .inl (which exception, state) or .inr (answer, state) -/
def exN : Nat → String
  | 1 => "java/lang/IllegalArgumentException"
  | 2 => "java/lang/IllegalStateException"
  | _ => "java/lang/IndexOutOfBoundsException"
def strL : List (Nat × String) := [(174, "no such number"), (199, "no such number of a book"), (219, "no such number of a visitor"), (240, "no such number of a gate"), (242, "no such shout"), (253, "no such number of a shout"), (292, "ticks are 1 to 50"), (297, "no such setting"), (303, "no state is remembered"), (322, "no such script"), (338, "turns are 1 to 99"), (358, "no such book"), (361, "no such visitor"), (363, "no such gate"), (365, "no such save slot"), (367, "not as things stand"), (43, "no character"), (54, "the text is full"), (68, "the text is not a library")]
def exWs : List Cond := [.declares (Bundle.initS "java/lang/RuntimeException"), .declares (Bundle.initS "java/lang/Exception"), .declares (Bundle.initS Bundle.tN), .castable "java/lang/IllegalArgumentException" "java/lang/IllegalArgumentException", .castable "java/lang/IllegalStateException" "java/lang/IllegalStateException", .castable "java/lang/IndexOutOfBoundsException" "java/lang/IndexOutOfBoundsException"]
theorem exWs_t : ∀ w ∈ exWs, w.onTables = true := by
  intro w hw
  simp only [exWs, List.mem_cons, List.not_mem_nil, or_false] at hw
  rcases hw with rfl | rfl | rfl | rfl | rfl | rfl <;> rfl
theorem exWs_W {u U : State} (hW : u.WarmedH U.vm) (h : ∀ w ∈ exWs, va_Nw w u) : ∀ w ∈ exWs, va_Nw w U := by
  intro w hw
  have h1 := h w hw
  simp only [exWs, List.mem_cons, List.not_mem_nil, or_false] at hw
  rcases hw with rfl | rfl | rfl | rfl | rfl | rfl
  · exact va_Nw.warmD hW h1
  · exact va_Nw.warmD hW h1
  · exact va_Nw.warmD hW h1
  · exact va_Nw.warmC hW h1
  · exact va_Nw.warmC hW h1
  · exact va_Nw.warmC hW h1
def gX (A : Nat → Prop) (U : State) (H : Heap) : Prop := (∀ w ∈ exWs, va_Nw w U) ∧ vx_Zq Bundle.tN "UNASSIGNED_STACK" Bundle.steD A U H ∧ vx_Zq Bundle.tN "SUPPRESSED_SENTINEL" Bundle.listD A U H ∧ ∀ q ∈ strL, ∃ a, vk_R RX3 q.1 q.2 a U
theorem gX.movedW {A : Nat → Prop} {u U : State} {H : Heap} (hW : u.WarmedH U.vm) (h : gX A u H) : gX A U H := ⟨exWs_W hW h.1, vx_Zq.moved hW.alike h.2.1, vx_Zq.moved hW.alike h.2.2.1, fun q hq => by obtain ⟨a, ha⟩ := h.2.2.2 q hq; exact ⟨a, vk_R.warm hW ha⟩⟩
theorem gX.same {A : Nat → Prop} {u U : State} {H : Heap} (hv : u.vm = U.vm) (h : gX A u H) : gX A U H := ⟨fun w hw => va_Nw.same (exWs_t w hw) hv (h.1 w hw), vx_Zq.moved (by rw [hv]; exact Vm.Alike.refl _) h.2.1, vx_Zq.moved (by rw [hv]; exact Vm.Alike.refl _) h.2.2.1, fun q hq => by obtain ⟨a, ha⟩ := h.2.2.2 q hq; exact ⟨a, vk_R.same hv.symm ha⟩⟩
theorem gX.kept {A : Nat → Prop} {U : State} {H H1 : Heap} (h : gX A U H) (hq : ∀ a : Nat, a < H.size → ¬ A a → H1[a]? = H[a]?) : gX A U H1 := ⟨h.1, h.2.1.kept hq, h.2.2.1.kept hq, h.2.2.2⟩
theorem gX.narrow {A B : Nat → Prop} {U : State} {H : Heap} (h : gX A U H) (hAB : ∀ q, B q → A q) : gX B U H := ⟨h.1, h.2.1.narrow hAB, h.2.2.1.narrow hAB, h.2.2.2⟩
/-- what a throw leaves -/
def gXC {T : Type} (D : va_G) (Wf : T → va_W) (A : Nat → Prop) (q : Nat × T) : String → State → State → Prop := vx_X (fun u : T => u = q.2) (fun E u t => E = exN q.1 ∧ va_P D vwCl (Wf u) t.heap ∧ va_D A (Wf u)) A
def gCX {V T : Type} (l : Launch) (rm : Room) (own : String) (cc : ByteArray) (Ts : List Cond) (nL : Nat) (D : va_G) (tys : List (ClassId × FieldType)) (Wf : T → va_W) (rt : ByteArray → ((Nat × T) ⊕ V) → Nat → List Value → T → Prop) (g : Option ((Nat × T) ⊕ V) → Nat → List (Nat × Value) → List Value → T → Prop) : Prop :=
  ∃ (p : Program) (e : Env) (s : State) (m : MethodId) (args : Array Value) (below : List Frame) (meth : Method) (c : Code) (A : Nat → Prop) (Q : State → Prop) (res : (Nat × T) ⊕ V),
    (p.tables.exec = Jvm.exec ∧ c.code = cc ∧ c.maxLocals = nL ∧ s.vm.findClass own = some m.cls ∧ (∀ w ∈ Ts, w.before args s = true) ∧ gK D tys s ∧ (∀ q, s.heap.size ≤ q → A q) ∧ g = gJ p l e rm s m args below meth c D A nL Wf Q res ∧
    ∀ (σ : T) (pc : Nat) (st : List Value) (H : Heap) (locs : List Loc) (ls : Array Slot), rt cc res pc st σ → va_P D vwCl (Wf σ) H → va_D A (Wf σ) → va_S A s.heap H locs → W p l e rm s m args below meth c H locs 0 0 Q (F0 m pc ls st)) ∧
    ∀ q : Nat × T, res = .inl q → (∃ Qc, Q = vx_MQ below Qc (gXC D Wf A q) args s 1 6 A) ∧ meth.locks = false ∧ (∀ x ∈ c.exceptionTable.toList, False) ∧ l.stackTraces = false ∧ gX A s s.heap ∧ 1 ≤ rm.cells ∧ 6 ≤ rm.slots
theorem gCX.C {V T : Type} {l : Launch} {rm : Room} {own : String} {cc : ByteArray} {Ts : List Cond} {nL : Nat} {D : va_G} {tys : List (ClassId × FieldType)} {Wf : T → va_W} {rt : ByteArray → ((Nat × T) ⊕ V) → Nat → List Value → T → Prop} {g : Option ((Nat × T) ⊕ V) → Nat → List (Nat × Value) → List Value → T → Prop} (h : gCX l rm own cc Ts nL D tys Wf rt g) : gC l rm own cc Ts nL D tys Wf rt g := by
  obtain ⟨p, e, s, m, args, below, meth, c, A, Q, res, h, -⟩ := h
  exact ⟨p, e, s, m, args, below, meth, c, A, Q, res, h⟩
def rtXI {T : Type} (cc : ByteArray) (r : (Nat × T) ⊕ (Int32 × T)) (pc : Nat) (st : List Value) (σ : T) : Prop := ∃ v : Int32, r = .inr (v, σ) ∧ decode cc pc = .ok (.ireturn, 1) ∧ st = [.int v]
def rtXV {T : Type} (cc : ByteArray) (r : (Nat × T) ⊕ T) (pc : Nat) (st : List Value) (σ : T) : Prop := r = .inr σ ∧ decode cc pc = .ok (.return_, 1) ∧ st = []
def gPreX {T : Type} (D : va_G) (tys : List (ClassId × FieldType)) (Wf : T → va_W) (argv : List Value) (σ : T) (sz : Nat) : Array Value → State → Prop := va_Pc argv (fun U => U.heap.size = sz ∧ va_P D vwCl (Wf σ) U.heap ∧ gK D tys U ∧ va_D (fun _ => True) (Wf σ) ∧ gX (va_A (Wf σ) sz) U U.heap)
def gMt {T : Type} (l : Launch) (y : MethodName) (ws : List Cond) (rm : Room) (D : va_G) (tys : List (ClassId × FieldType)) (Wf : T → va_W) (argv : List Value) (σ : T) (q : Nat × T) : Prop :=
  ∀ sz, vx_Met l y ws rm (gPreX D tys Wf argv σ sz) (va_Qi (S := Unit) (fun _ _ => False) (fun _ _ => True) (fun _ => False)) (gXC D Wf (va_A (Wf σ) sz) q) 1 6 (va_A (Wf σ) sz)
def gMtv {T : Type} (l : Launch) (y : MethodName) (ws : List Cond) (rm : Room) (D : va_G) (tys : List (ClassId × FieldType)) (Wf : T → va_W) (argv : List Value) (σ : T) (q : Nat × T) : Prop :=
  ∀ sz, vx_Met l y ws rm (gPreX D tys Wf argv σ sz) (va_Qv (S := Unit) (fun _ => False) (fun _ _ => True) (fun _ => False)) (gXC D Wf (va_A (Wf σ) sz) q) 1 6 (va_A (Wf σ) sz)
/-- a method that may throw, its answer an int -/
def gMx {T : Type} (l : Launch) (y : MethodName) (ws : List Cond) (fr lo : Nat) (D : va_G) (tys : List (ClassId × FieldType)) (Wf : T → va_W) (argv : List Value) (σ : T) (r : (Nat × T) ⊕ (Int32 × T)) : Prop := match r with
  | .inr q => gMi l y ws { frames := fr, cells := 0, slots := 0, locals := lo } D tys Wf argv σ q
  | .inl q => gMt l y ws { frames := fr, cells := 1, slots := 6, locals := lo } D tys Wf argv σ q
def gMxv {T : Type} (l : Launch) (y : MethodName) (ws : List Cond) (fr lo : Nat) (D : va_G) (tys : List (ClassId × FieldType)) (Wf : T → va_W) (argv : List Value) (σ : T) (r : (Nat × T) ⊕ T) : Prop := match r with
  | .inr q => gMv l y ws { frames := fr, cells := 0, slots := 0, locals := lo } D tys Wf argv σ q
  | .inl q => gMtv l y ws { frames := fr, cells := 1, slots := 6, locals := lo } D tys Wf argv σ q
theorem mk_x {T : Type} {l : Launch} {y : MethodName} {ws ws' : List Cond} {fr lo : Nat} {D : va_G} {tys : List (ClassId × FieldType)} {Wf : T → va_W} {argv : List Value} {σ : T} {r : (Nat × T) ⊕ (Int32 × T)} {cc : ByteArray} {nL : Nat} {f : Option ((Nat × T) ⊕ (Int32 × T))} (hfl : l.stackTraces = false) (hy : plainName y.cls = true) (hw : ws = Cond.code y cc nL (some .int) :: ws') (hlen : (lg_sl argv).length ≤ nL) (hf : f = some r)
    (body : ∀ (ce sl : Nat) g, gCX l { frames := fr, cells := ce, slots := sl, locals := lo } y.cls cc ws nL D tys Wf rtXI g → g f 0 (lv_args 0 argv) [] σ) : gMx l y ws fr lo D tys Wf argv σ r := by
  cases r with
  | inr q =>
    intro sz
    refine Met.ofW (cc := cc) (maxL := nL) (ret := (some .int)) hy hw ?_
    intro p e s m args below meth c s₁ B hml hv
    obtain ⟨rfl, hsz, hP, hK, hD⟩ := gEntry hv
    have hx := B.exec
    have hb := B.bytes
    have hr := B.returns
    have hts := atoms_spec (ws := ws) B.pre
    have hown : s.vm.findClass y.cls = some m.cls := findClass_of_methodNamed B.named
    have hlocks := B.notSynchronized
    subst hsz
    have hl := lv_entry argv (n := nL) hlen
    rw [lg_entry_eq]
    refine body 0 0 _ ⟨p, e, s, m, argv.toArray, below, meth, c, va_A (Wf σ) s.heap.size, _, .inr q, ⟨hx, hb, hml, hown, hts, hK, fun q h => Or.inr h, rfl, ?_⟩, fun q h => nomatch h⟩ hf s.heap [] _ hP hD va_S.rf hl
    intro σ' pc st H locs ls hrt hP hD hS
    obtain ⟨v, h9, hdg, rfl⟩ := hrt
    cases h9
    exact W.iret hx hb hr (fun t ht hW => ⟨⟨_, _, rfl, rfl, by rw [ht]; exact hP, hK.movedW hW, hD⟩, hS.F ht⟩) hS.2.2 hdg
  | inl q =>
    intro sz
    refine vx_ofW (cc := cc) (maxL := nL) (ret := (some .int)) hy hw ?_
    intro p e s m args below meth c s₁ B hml htab hv
    obtain ⟨rfl, hsz, hP, hK, hD, hX⟩ := hv
    have hD := hD.self (sz := sz)
    have hx := B.exec
    have hb := B.bytes
    have hts := atoms_spec (ws := ws) B.pre
    have hown : s.vm.findClass y.cls = some m.cls := findClass_of_methodNamed B.named
    have hlocks := B.notSynchronized
    subst hsz
    have hl := lv_entry argv (n := nL) hlen
    rw [lg_entry_eq]
    refine body 1 6 _ ⟨p, e, s, m, argv.toArray, below, meth, c, va_A (Wf σ) s.heap.size, _, .inl q, ⟨hx, hb, hml, hown, hts, hK, fun q h => Or.inr h, rfl, ?_⟩, fun q9 h => ?_⟩ hf s.heap [] _ hP hD va_S.rf hl
    · intro σ' pc st H locs ls hrt
      obtain ⟨v, h9, -⟩ := hrt
      cases h9
    · cases h
      exact ⟨⟨_, rfl⟩, hlocks, htab, hfl, hX, Nat.le_refl _, Nat.le_refl _⟩
theorem mk_xv {T : Type} {l : Launch} {y : MethodName} {ws ws' : List Cond} {fr lo : Nat} {D : va_G} {tys : List (ClassId × FieldType)} {Wf : T → va_W} {argv : List Value} {σ : T} {r : (Nat × T) ⊕ T} {cc : ByteArray} {nL : Nat} {f : Option ((Nat × T) ⊕ T)} (hfl : l.stackTraces = false) (hy : plainName y.cls = true) (hw : ws = Cond.code y cc nL none :: ws') (hlen : (lg_sl argv).length ≤ nL) (hf : f = some r)
    (body : ∀ (ce sl : Nat) g, gCX l { frames := fr, cells := ce, slots := sl, locals := lo } y.cls cc ws nL D tys Wf rtXV g → g f 0 (lv_args 0 argv) [] σ) : gMxv l y ws fr lo D tys Wf argv σ r := by
  cases r with
  | inr q =>
    intro sz
    refine Met.ofW (cc := cc) (maxL := nL) (ret := none) hy hw ?_
    intro p e s m args below meth c s₁ B hml hv
    obtain ⟨rfl, hsz, hP, hK, hD⟩ := gEntry hv
    have hx := B.exec
    have hb := B.bytes
    have hr := B.returns
    have hts := atoms_spec (ws := ws) B.pre
    have hown : s.vm.findClass y.cls = some m.cls := findClass_of_methodNamed B.named
    have hlocks := B.notSynchronized
    subst hsz
    have hl := lv_entry argv (n := nL) hlen
    rw [lg_entry_eq]
    refine body 0 0 _ ⟨p, e, s, m, argv.toArray, below, meth, c, va_A (Wf σ) s.heap.size, _, .inr q, ⟨hx, hb, hml, hown, hts, hK, fun q h => Or.inr h, rfl, ?_⟩, fun q h => nomatch h⟩ hf s.heap [] _ hP hD va_S.rf hl
    intro σ' pc st H locs ls hrt hP hD hS
    obtain ⟨h9, hdg, rfl⟩ := hrt
    cases h9
    exact W.vret hx hb hr (fun t ht hW => ⟨⟨_, rfl, rfl, by rw [ht]; exact hP, hK.movedW hW, hD⟩, hS.F ht⟩) hS.2.2 hdg
  | inl q =>
    intro sz
    refine vx_ofW (cc := cc) (maxL := nL) (ret := none) hy hw ?_
    intro p e s m args below meth c s₁ B hml htab hv
    obtain ⟨rfl, hsz, hP, hK, hD, hX⟩ := hv
    have hD := hD.self (sz := sz)
    have hx := B.exec
    have hb := B.bytes
    have hts := atoms_spec (ws := ws) B.pre
    have hown : s.vm.findClass y.cls = some m.cls := findClass_of_methodNamed B.named
    have hlocks := B.notSynchronized
    subst hsz
    have hl := lv_entry argv (n := nL) hlen
    rw [lg_entry_eq]
    refine body 1 6 _ ⟨p, e, s, m, argv.toArray, below, meth, c, va_A (Wf σ) s.heap.size, _, .inl q, ⟨hx, hb, hml, hown, hts, hK, fun q h => Or.inr h, rfl, ?_⟩, fun q9 h => ?_⟩ hf s.heap [] _ hP hD va_S.rf hl
    · intro σ' pc st H locs ls hrt
      obtain ⟨h9, -⟩ := hrt
      cases h9
    · cases h
      exact ⟨⟨_, rfl⟩, hlocks, htab, hfl, hX, Nat.le_refl _, Nat.le_refl _⟩
theorem gPreX_blind {T : Type} {D : va_G} {tys : List (ClassId × FieldType)} {Wf : T → va_W} {argv : List Value} {σ : T} {sz : Nat} : FrameBlind (gPreX D tys Wf argv σ sz) := by
  intro a U g mk q
  obtain ⟨q0, q1, qP, qK, qD, qX⟩ := q
  exact ⟨q0, q1, qP, gK.same (u := U) (U := U.calling g mk a) rfl qK, qD, gX.same (u := U) (U := U.calling g mk a) rfl qX⟩
/-- a throwing callee without a world, in the caller's state σ -/
def tb {T V : Type} (f : Option ((Nat × Unit) ⊕ Unit)) (σ : T) (k : Option ((Nat × T) ⊕ V)) : Option ((Nat × T) ⊕ V) := f.bind fun r => match r with
  | .inl q => some (.inl (q.1, σ))
  | .inr _ => k

theorem g_throwS {V T : Type} {l : Launch} {rm : Room} {own : String} {cc : ByteArray} {Ts : List Cond} {nL : Nat} {D : va_G} {tys : List (ClassId × FieldType)} {Wf : T → va_W} {rt : ByteArray → ((Nat × T) ⊕ V) → Nat → List Value → T → Prop} {g : Option ((Nat × T) ⊕ V) → Nat → List (Nat × Value) → List Value → T → Prop} {pc : Nat} {lv : List (Nat × Value)} {rest : List Value} {σ : T}
    (CX : gCX l rm own cc Ts nL D tys Wf rt g) {k ik is ic : Nat} {text : String} (hown9 : own = RX3) (hfit : Bundle.fit (exN k) = true) (hw1 : Cond.classLink own ik (exN k) ∈ Ts) (hw2 : Cond.initialized (exN k) ∈ Ts) (hs9 : (is, text) ∈ strL) (hat : ∀ w ∈ (vx_atS own ic (exN k) ["java/lang/RuntimeException", "java/lang/Exception"]).filter goodWord, w ∈ Ts)
    (hng : ∀ w ∈ (vx_atS own ic (exN k) ["java/lang/RuntimeException", "java/lang/Exception"]).filter (fun w => !goodWord w), w ∈ exWs) (hgd : (Cond.classLink own ik (exN k) :: Cond.initialized (exN k) :: vx_atS own ic (exN k) ["java/lang/RuntimeException", "java/lang/Exception"]).all vx_ot = true)
    (d0 : decode cc pc = .ok (.new ik, 3)) (d3 : decode cc (pc + 3) = .ok (.dup, 1)) (d4 : decode cc (pc + 4) = .ok (.ldc is, 2)) (d6 : decode cc (pc + 6) = .ok (.invokespecial ic, 3)) (d9 : decode cc (pc + 9) = .ok (.athrow, 1))
    (hF : 6 ≤ rm.frames) (hL : (rest.map fun v => v.category).sum + 82 ≤ rm.locals) : g (some (.inl (k, σ))) pc lv rest σ := by
  obtain ⟨p, e, s, m, args, below, meth, c, A, Q, res, ⟨hx, hb, hml, hown, hts, hK, hA, rfl, hret⟩, hthr⟩ := CX
  intro hres H locs ls hP hD hS hl
  obtain ⟨⟨Qc, rfl⟩, hlocks, htab, hfl, hX, hrc, hrs⟩ := hthr (k, σ) (Option.some.inj hres).symm
  subst hown9
  obtain ⟨sa, hstr⟩ := hX.2.2.2 _ hs9
  exact vx_throwS hx hb hfl hown hfit (by decide) (hts _ hw1) (hts _ hw2) hstr (fun w hw => by
      by_cases g9 : goodWord w = true
      · exact hts _ (hat w (List.mem_filter.mpr ⟨hw, g9⟩))
      · have h8 : w ∈ (vx_atS RX3 ic (exN k) ["java/lang/RuntimeException", "java/lang/Exception"]).filter (fun w => !goodWord w) := List.mem_filter.mpr ⟨hw, by simp [g9]⟩
        exact va_Nw.use (exWs_t w (hng w h8)) (hX.1 w (hng w h8))) (List.all_eq_true.mp hgd) hX.2.1 hX.2.2.1 hS (hl.1.trans hml.symm) d0 d3 d4 d6 d9 (fun x h9 => (htab x h9).elim) hF hL (by omega) (by omega) hlocks
    (fun t ha hz hk => ⟨σ, rfl, ⟨rfl, hP.kept (fun k q h => hk _ ((hP k q h).lt)), hD⟩, ⟨Nat.le_trans hS.1 hz, fun q h1 h2 => (hk q (Nat.lt_of_lt_of_le h1 hS.1)).trans (hS.2.1 q h1 h2)⟩⟩) hS.2.2 (Nat.le_refl _) (Nat.le_refl _)
theorem g_throwSW {V T : Type} {l : Launch} {rm : Room} {own : String} {cc : ByteArray} {Ts : List Cond} {nL : Nat} {D : va_G} {tys : List (ClassId × FieldType)} {Wf : T → va_W} {rt : ByteArray → ((Nat × T) ⊕ V) → Nat → List Value → T → Prop} {g : Option ((Nat × T) ⊕ V) → Nat → List (Nat × Value) → List Value → T → Prop} {pc : Nat} {lv : List (Nat × Value)} {rest : List Value} {σ : T}
    (CX : gCX l rm own cc Ts nL D tys Wf rt g) {k ik is ic : Nat} {text : String} (hown9 : own = RX3) (hfit : Bundle.fit (exN k) = true) (hw1 : Cond.classLink own ik (exN k) ∈ Ts) (hw2 : Cond.initialized (exN k) ∈ Ts) (hs9 : (is, text) ∈ strL) (hat : ∀ w ∈ (vx_atS own ic (exN k) ["java/lang/RuntimeException", "java/lang/Exception"]).filter goodWord, w ∈ Ts)
    (hng : ∀ w ∈ (vx_atS own ic (exN k) ["java/lang/RuntimeException", "java/lang/Exception"]).filter (fun w => !goodWord w), w ∈ exWs) (hgd : (Cond.classLink own ik (exN k) :: Cond.initialized (exN k) :: vx_atS own ic (exN k) ["java/lang/RuntimeException", "java/lang/Exception"]).all vx_ot = true)
    (d0 : decode cc pc = .ok (.new ik, 3)) (d3 : decode cc (pc + 3) = .ok (.dup, 1)) (d4 : decode cc (pc + 4) = .ok (.ldc_w is, 3)) (d6 : decode cc (pc + 7) = .ok (.invokespecial ic, 3)) (d9 : decode cc (pc + 10) = .ok (.athrow, 1))
    (hF : 6 ≤ rm.frames) (hL : (rest.map fun v => v.category).sum + 82 ≤ rm.locals) : g (some (.inl (k, σ))) pc lv rest σ := by
  obtain ⟨p, e, s, m, args, below, meth, c, A, Q, res, ⟨hx, hb, hml, hown, hts, hK, hA, rfl, hret⟩, hthr⟩ := CX
  intro hres H locs ls hP hD hS hl
  obtain ⟨⟨Qc, rfl⟩, hlocks, htab, hfl, hX, hrc, hrs⟩ := hthr (k, σ) (Option.some.inj hres).symm
  subst hown9
  obtain ⟨sa, hstr⟩ := hX.2.2.2 _ hs9
  exact vx_throwSW hx hb hfl hown hfit (by decide) (hts _ hw1) (hts _ hw2) hstr (fun w hw => by
      by_cases g9 : goodWord w = true
      · exact hts _ (hat w (List.mem_filter.mpr ⟨hw, g9⟩))
      · have h8 : w ∈ (vx_atS RX3 ic (exN k) ["java/lang/RuntimeException", "java/lang/Exception"]).filter (fun w => !goodWord w) := List.mem_filter.mpr ⟨hw, by simp [g9]⟩
        exact va_Nw.use (exWs_t w (hng w h8)) (hX.1 w (hng w h8))) (List.all_eq_true.mp hgd) hX.2.1 hX.2.2.1 hS (hl.1.trans hml.symm) d0 d3 d4 d6 d9 (fun x h9 => (htab x h9).elim) hF hL (by omega) (by omega) hlocks
    (fun t ha hz hk => ⟨σ, rfl, ⟨rfl, hP.kept (fun k q h => hk _ ((hP k q h).lt)), hD⟩, ⟨Nat.le_trans hS.1 hz, fun q h1 h2 => (hk q (Nat.lt_of_lt_of_le h1 hS.1)).trans (hS.2.1 q h1 h2)⟩⟩) hS.2.2 (Nat.le_refl _) (Nat.le_refl _)
theorem g_callX {V T : Type} {l : Launch} {rm : Room} {own : String} {cc : ByteArray} {Ts : List Cond} {nL : Nat} {D : va_G} {tys : List (ClassId × FieldType)} {Wf : T → va_W} {rt : ByteArray → ((Nat × T) ⊕ V) → Nat → List Value → T → Prop} {g : Option ((Nat × T) ⊕ V) → Nat → List (Nat × Value) → List Value → T → Prop} {pc : Nat} {lv : List (Nat × Value)} {rest st : List Value} {σ : T}
    (CX : gCX l rm own cc Ts nL D tys Wf rt g) {y : MethodName} {bytes : ByteArray} {maxL n index fr lo : Nat} {ret : Option FieldType} {ws ws' : List Cond} {As : List Value} {f : Option ((Nat × Unit) ⊕ Unit)} {x : Option ((Nat × T) ⊕ V)}
    (hM : ∀ r, f = some r → gMxv l y ws fr lo D tys (fun _ : Unit => []) As () r) (hG : GoodIn Ts (va_wsS own index y ws)) (hw : ws = Cond.code y bytes maxL ret :: ws')
    (hd : y.cls ≠ "java/lang/invoke/MethodHandle" ∧ y.cls ≠ "java/lang/invoke/VarHandle" ∧ (parseMethodDescriptor y.desc).map (fun d => d.parameters.length) = some n) (hR : fr + 1 ≤ rm.frames ∧ 8 + (maxL + 11) + lo ≤ rm.locals)
    (hn : As.length = n) (hst : st = As.reverse ++ rest) (hW : (rest.map fun v => v.category).sum ≤ 8) (d : decode cc pc = .ok (.invokestatic index, 3)) (k : g x (pc + 3) lv rest σ) : g (tb f σ x) pc lv st σ := by
  cases hf : f with
  | none => exact g_none CX.C
  | some r =>
    cases r with
    | inr u => exact g_callSv CX.C (f := some u) (X := fun _ => x) (τ := ()) (put := fun _ => σ) (fun r h => by cases h; exact hM _ hf) gE.nil hG hw hd ⟨hR.1, hR.2, rfl, rfl⟩ hn hst hW d (fun _ _ => k)
    | inl q =>
      show g (some (.inl (q.1, σ))) pc lv st σ
      have hM9 := hM _ hf
      obtain ⟨p, e, s, m, args, below, meth, c, A, Q, res, ⟨hx, hb, hml, hown, hts, hK, hA, rfl, hret⟩, hthr⟩ := CX
      intro hres H locs ls hP hD hS hl
      obtain ⟨⟨Qc, rfl⟩, hlocks, htab, hfl, hX, hrc, hrs⟩ := hthr (q.1, σ) (Option.some.inj hres).symm
      subst hst
      have hnil : ∀ q9, va_A [] H.size q9 → H.size ≤ q9 := by
        rintro q9 (⟨k, e, h⟩ | h)
        · simp at h
        · exact h
      have hF9 : ∀ q9, va_A [] H.size q9 → A q9 := fun q9 h => hA q9 (Nat.le_trans hS.1 (hnil q9 h))
      refine vx_callv (vx_runS (As := As) (rest := rest) ⟨hx, hb, hml, hown, hts⟩ (hM9 H.size) (va_cwS n hts hG hw rfl rfl hd hR) ⟨gPreX_blind, fun U hU hW9 => ⟨rfl, by rw [hU], fun k q h => by simp at h, hK.movedW hW9, ⟨fun i j p q h => by simp at h, fun k q h => by simp at h⟩, by rw [hU]; exact ((hX.kept hS.2.1).movedW hW9).narrow hF9⟩⟩ rfl hn hl.1 rfl (lv_room hW) d ⟨by omega, by omega⟩) hS (fun _ _ h => h.elim) hF9 (fun q9 _ h => hF9 q9 h)
        (fun E ce q9 u t H1 locs1 ht hvm hpx hB hz hk hS1 hce hcv hcl => ?_) (fun u t H1 locs1 ht hvm hw9 => hw9.elim)
      refine vx_out (fun x h9 => (htab x h9).elim) hlocks hce hcv hcl (fun t' ht' _ => ⟨σ, rfl, ⟨hB.1, ?_, hD⟩, hS1.F ht'⟩) hS1.2.2 (Nat.le_refl _) (Nat.le_refl _)
      rw [ht']
      exact hP.kept (fun k q h => hk q.1 ((hP k q h).lt) (fun h2 => absurd ((hP k q h).lt) (Nat.not_lt.mpr (hnil _ h2))))
theorem allOt1 (ik : Nat) : (Cond.classLink RX3 ik (exN 1) :: Cond.initialized (exN 1) :: vx_atS RX3 45 (exN 1) ["java/lang/RuntimeException", "java/lang/Exception"]).all vx_ot = true := by
  rw [List.all_cons, List.all_cons]
  exact Bool.and_eq_true_iff.mpr ⟨rfl, Bool.and_eq_true_iff.mpr ⟨rfl, by decide +kernel⟩⟩
theorem allOt2 (ik : Nat) : (Cond.classLink RX3 ik (exN 2) :: Cond.initialized (exN 2) :: vx_atS RX3 56 (exN 2) ["java/lang/RuntimeException", "java/lang/Exception"]).all vx_ot = true := by
  rw [List.all_cons, List.all_cons]
  exact Bool.and_eq_true_iff.mpr ⟨rfl, Bool.and_eq_true_iff.mpr ⟨rfl, by decide +kernel⟩⟩
theorem allOt3 (ik : Nat) : (Cond.classLink RX3 ik (exN 3) :: Cond.initialized (exN 3) :: vx_atS RX3 360 (exN 3) ["java/lang/RuntimeException", "java/lang/Exception"]).all vx_ot = true := by
  rw [List.all_cons, List.all_cons]
  exact Bool.and_eq_true_iff.mpr ⟨rfl, Bool.and_eq_true_iff.mpr ⟨rfl, by decide +kernel⟩⟩
theorem nonGood1 : ∀ w ∈ (vx_atS RX3 45 (exN 1) ["java/lang/RuntimeException", "java/lang/Exception"]).filter (fun w => !goodWord w), w ∈ exWs := by decide +kernel
theorem nonGood2 : ∀ w ∈ (vx_atS RX3 56 (exN 2) ["java/lang/RuntimeException", "java/lang/Exception"]).filter (fun w => !goodWord w), w ∈ exWs := by decide +kernel
theorem nonGood3 : ∀ w ∈ (vx_atS RX3 360 (exN 3) ["java/lang/RuntimeException", "java/lang/Exception"]).filter (fun w => !goodWord w), w ∈ exWs := by decide +kernel
