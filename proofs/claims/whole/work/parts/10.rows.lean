/-! OUR JUDGEMENT over the kit's W: goals 'g x pc lv st σ': x is what is left of the pure function, σ the state that the world Wf shows. -/
-- pure side
abbrev gS : Type := Nat → Nat → Int32
def stf (σ : gS) (k : Nat) (f : Nat → Int32) : gS := fun i => if i = k then f else σ i
def st2 (σ : gS) (k j : Nat) (x : Int32) : gS := stf σ k (upd (σ k) j x)
def gd {α : Type} (c : Prop) [Decidable c] (x : Option α) : Option α := if c then x else none
abbrev inb (i : Int32) (n : Nat) : Prop := ¬ (i < 0 ∨ n ≤ i.toNatClampNeg)
def gl {α β : Type} (x : α) (k : α → β) : β := k x
def gFuel : Nat := 5000
-- what the machine's side knows besides the world
def nestWs : List Cond := [.methodLinkNest RX3 11 yX2_init RX3, .methodLinkNest RX0 40 yX3_copyInts RX3, .methodLinkNest RX0 44 yX3_has RX3, .methodLinkNest RX0 52 yX3_bit RX3, .methodLinkNest RX1 71 yX3_copyInts RX3, .methodLinkNest RX1 75 yX3_has RX3, .methodLinkNest RX1 79 yX3_oneIf RX3, .methodLinkNest RX1 83 yX3_isVisitor RX3, .methodLinkNest RX1 87 yX3_isBook RX3, .methodLinkNest RX1 102 yX3_isGate RX3, .methodLinkNest RX1 108 yX3_bit RX3, .methodLinkNest RX1 11 yX0_init RX3]
def gK (D : va_G) (tys : List (ClassId × FieldType)) (U : State) : Prop := va_K D vwCl tys U ∧ ∀ w ∈ nestWs, va_Nw w U
theorem gK.movedW {D : va_G} {tys : List (ClassId × FieldType)} {u U : State} (hW : u.WarmedH U.vm) (h : gK D tys u) : gK D tys U := by
  refine ⟨va_K.moved hW.alike h.1, fun w hw => ?_⟩
  have h1 := h.2 w hw
  simp only [nestWs, List.mem_cons, List.not_mem_nil, or_false] at hw
  rcases hw with rfl | rfl | rfl | rfl | rfl | rfl | rfl | rfl | rfl | rfl | rfl | rfl <;> exact va_Nw.warmM hW h1
theorem gK.same {D : va_G} {tys : List (ClassId × FieldType)} {u U : State} (hv : u.vm = U.vm) (h : gK D tys u) : gK D tys U := by
  refine ⟨va_K.moved (by rw [hv]; exact Vm.Alike.refl _) h.1, fun w hw => ?_⟩
  have h1 := h.2 w hw
  simp only [nestWs, List.mem_cons, List.not_mem_nil, or_false] at hw
  rcases hw with rfl | rfl | rfl | rfl | rfl | rfl | rfl | rfl | rfl | rfl | rfl | rfl <;> exact va_Nw.same rfl hv h1
-- the judgement
def gJ {R T : Type} (p : Program) (l : Launch) (e : Env) (rm : Room) (s : State) (m : MethodId) (args : Array Value) (below : List Frame) (meth : Method) (c : Code) (D : va_G) (A : Nat → Prop) (nL : Nat) (Wf : T → va_W) (Q : State → Prop) (res : R) (x : Option R) (pc : Nat) (lv : List (Nat × Value)) (st : List Value) (σ : T) : Prop :=
  x = some res → ∀ (H : Heap) (locs : List Loc) (ls : Array Slot), va_P D vwCl (Wf σ) H → va_D A (Wf σ) → va_S A s.heap H locs → lv_has ls nL lv → W p l e rm s m args below meth c H locs 0 0 Q (F0 m pc ls st)
def gC {R T : Type} (l : Launch) (rm : Room) (own : String) (cc : ByteArray) (Ts : List Cond) (nL : Nat) (D : va_G) (tys : List (ClassId × FieldType)) (Wf : T → va_W) (rt : ByteArray → R → Nat → List Value → T → Prop) (g : Option R → Nat → List (Nat × Value) → List Value → T → Prop) : Prop :=
  ∃ (p : Program) (e : Env) (s : State) (m : MethodId) (args : Array Value) (below : List Frame) (meth : Method) (c : Code) (A : Nat → Prop) (Q : State → Prop) (res : R),
    p.tables.exec = Jvm.exec ∧ c.code = cc ∧ c.maxLocals = nL ∧ s.vm.findClass own = some m.cls ∧ (∀ w ∈ Ts, w.before args s = true) ∧ gK D tys s ∧ (∀ q, s.heap.size ≤ q → A q) ∧ g = gJ p l e rm s m args below meth c D A nL Wf Q res ∧
    ∀ (σ : T) (pc : Nat) (st : List Value) (H : Heap) (locs : List Loc) (ls : Array Slot), rt cc res pc st σ → va_P D vwCl (Wf σ) H → va_D A (Wf σ) → va_S A s.heap H locs → W p l e rm s m args below meth c H locs 0 0 Q (F0 m pc ls st)
-- what a return must show
def rtI {T : Type} (cc : ByteArray) (r : Int32 × T) (pc : Nat) (st : List Value) (σ : T) : Prop := decode cc pc = .ok (.ireturn, 1) ∧ st = [.int r.1] ∧ r.2 = σ
def rtZ {T : Type} (cc : ByteArray) (r : Int32 × T) (pc : Nat) (st : List Value) (σ : T) : Prop := decode cc pc = .ok (.ireturn, 1) ∧ st = [.int r.1] ∧ r.2 = σ ∧ (r.1 = 0 ∨ r.1 = 1)
def rtL {T : Type} (cc : ByteArray) (r : Int64 × T) (pc : Nat) (st : List Value) (σ : T) : Prop := decode cc pc = .ok (.lreturn, 1) ∧ st = [.long r.1] ∧ r.2 = σ
def rtV {T : Type} (cc : ByteArray) (r : T) (pc : Nat) (st : List Value) (σ : T) : Prop := decode cc pc = .ok (.return_, 1) ∧ st = [] ∧ r = σ
-- contracts
def gPre {T : Type} (D : va_G) (tys : List (ClassId × FieldType)) (Wf : T → va_W) (argv : List Value) (σ : T) (sz : Nat) : Array Value → State → Prop := va_Pc argv (fun U => U.heap.size = sz ∧ va_P D vwCl (Wf σ) U.heap ∧ gK D tys U ∧ va_D (fun _ => True) (Wf σ))
def gEnd {T : Type} (D : va_G) (tys : List (ClassId × FieldType)) (Wf : T → va_W) (σ0 : T) (sz : Nat) (u : T) (t : State) : Prop := va_P D vwCl (Wf u) t.heap ∧ gK D tys t ∧ va_D (va_A (Wf σ0) sz) (Wf u)
def gMi {T : Type} (l : Launch) (y : MethodName) (ws : List Cond) (rm : Room) (D : va_G) (tys : List (ClassId × FieldType)) (Wf : T → va_W) (argv : List Value) (σ : T) (r : Int32 × T) : Prop :=
  ∀ sz, Met l y ws rm (gPre D tys Wf argv σ sz) (va_Qi (fun v u => r = (v, u)) (gEnd D tys Wf σ sz) (va_A (Wf σ) sz)) 0 0 (va_A (Wf σ) sz)
def gMl {T : Type} (l : Launch) (y : MethodName) (ws : List Cond) (rm : Room) (D : va_G) (tys : List (ClassId × FieldType)) (Wf : T → va_W) (argv : List Value) (σ : T) (r : Int64 × T) : Prop :=
  ∀ sz, Met l y ws rm (gPre D tys Wf argv σ sz) (va_Ql (fun v u => r = (v, u)) (gEnd D tys Wf σ sz) (va_A (Wf σ) sz)) 0 0 (va_A (Wf σ) sz)
def gMv {T : Type} (l : Launch) (y : MethodName) (ws : List Cond) (rm : Room) (D : va_G) (tys : List (ClassId × FieldType)) (Wf : T → va_W) (argv : List Value) (σ : T) (r : T) : Prop :=
  ∀ sz, Met l y ws rm (gPre D tys Wf argv σ sz) (va_Qv (fun u => r = u) (gEnd D tys Wf σ sz) (va_A (Wf σ) sz)) 0 0 (va_A (Wf σ) sz)
theorem gEntry {T : Type} {D : va_G} {tys : List (ClassId × FieldType)} {Wf : T → va_W} {argv : List Value} {σ : T} {sz : Nat} {a : Array Value} {s : State} (h : gPre D tys Wf argv σ sz a s) : a = argv.toArray ∧ s.heap.size = sz ∧ va_P D vwCl (Wf σ) s.heap ∧ gK D tys s ∧ va_D (va_A (Wf σ) s.heap.size) (Wf σ) := by
  obtain ⟨h1, h2, h3, h4, h5⟩ := h
  exact ⟨h1, h2, h3, h4, h5.self⟩
theorem mk_i {T : Type} {l : Launch} {y : MethodName} {ws ws' : List Cond} {rm : Room} {D : va_G} {tys : List (ClassId × FieldType)} {Wf : T → va_W} {argv : List Value} {σ : T} {r : Int32 × T} {cc : ByteArray} {nL : Nat} {f : Option (Int32 × T)} (hy : plainName y.cls = true) (hw : ws = Cond.code y cc nL (some .int) :: ws') (hlen : (lg_sl argv).length ≤ nL) (hc : rm.cells = 0) (hs : rm.slots = 0) (hf : f = some r)
    (body : ∀ g, gC l rm y.cls cc ws nL D tys Wf rtI g → g f 0 (lv_args 0 argv) [] σ) : gMi l y ws rm D tys Wf argv σ r := by
  intro sz
  refine Met.ofW (cc := cc) (maxL := nL) (ret := (some .int)) hy hw ?_
  intro p e s m args below meth c s₁ B hml hv
  obtain ⟨rfl, hsz, hP, hK, hD⟩ := gEntry hv
  have hx := B.exec
  have hb := B.bytes
  have hr := B.returns
  have hts := atoms_spec (ws := ws) B.pre
  have hown : s.vm.findClass y.cls = some m.cls := findClass_of_methodNamed B.named
  have hlocks := B.notSynchronized
  subst hsz
  have hl := lv_entry argv (n := nL) hlen
  rw [lg_entry_eq]
  refine body _ ⟨p, e, s, m, argv.toArray, below, meth, c, va_A (Wf σ) s.heap.size, _, r, hx, hb, hml, hown, hts, hK, fun q h => Or.inr h, rfl, ?_⟩ hf s.heap [] _ hP hD va_S.rf hl
  intro σ' pc st H locs ls hrt hP hD hS
  obtain ⟨hdg, rfl, rfl⟩ := hrt
  exact W.iret hx hb hr (fun t ht hW => ⟨⟨_, _, rfl, rfl, by rw [ht]; exact hP, hK.movedW hW, hD⟩, hS.F ht⟩) hS.2.2 hdg
theorem mk_z {T : Type} {l : Launch} {y : MethodName} {ws ws' : List Cond} {rm : Room} {D : va_G} {tys : List (ClassId × FieldType)} {Wf : T → va_W} {argv : List Value} {σ : T} {r : Int32 × T} {cc : ByteArray} {nL : Nat} {f : Option (Int32 × T)} (hy : plainName y.cls = true) (hw : ws = Cond.code y cc nL (some .boolean) :: ws') (hlen : (lg_sl argv).length ≤ nL) (hc : rm.cells = 0) (hs : rm.slots = 0) (hf : f = some r)
    (body : ∀ g, gC l rm y.cls cc ws nL D tys Wf rtZ g → g f 0 (lv_args 0 argv) [] σ) : gMi l y ws rm D tys Wf argv σ r := by
  intro sz
  refine Met.ofW (cc := cc) (maxL := nL) (ret := (some .boolean)) hy hw ?_
  intro p e s m args below meth c s₁ B hml hv
  obtain ⟨rfl, hsz, hP, hK, hD⟩ := gEntry hv
  have hx := B.exec
  have hb := B.bytes
  have hr := B.returns
  have hts := atoms_spec (ws := ws) B.pre
  have hown : s.vm.findClass y.cls = some m.cls := findClass_of_methodNamed B.named
  have hlocks := B.notSynchronized
  subst hsz
  have hl := lv_entry argv (n := nL) hlen
  rw [lg_entry_eq]
  refine body _ ⟨p, e, s, m, argv.toArray, below, meth, c, va_A (Wf σ) s.heap.size, _, r, hx, hb, hml, hown, hts, hK, fun q h => Or.inr h, rfl, ?_⟩ hf s.heap [] _ hP hD va_S.rf hl
  intro σ' pc st H locs ls hrt hP hD hS
  obtain ⟨hdg, rfl, rfl, h01⟩ := hrt
  have hn : narrow .boolean (.int r.1) = .int r.1 := by rcases h01 with h | h <;> rw [h] <;> rfl
  exact W.zret hx hb hr hn (fun t ht hW => ⟨⟨_, _, rfl, rfl, by rw [ht]; exact hP, hK.movedW hW, hD⟩, hS.F ht⟩) hS.2.2 hdg
theorem mk_l {T : Type} {l : Launch} {y : MethodName} {ws ws' : List Cond} {rm : Room} {D : va_G} {tys : List (ClassId × FieldType)} {Wf : T → va_W} {argv : List Value} {σ : T} {r : Int64 × T} {cc : ByteArray} {nL : Nat} {f : Option (Int64 × T)} (hy : plainName y.cls = true) (hw : ws = Cond.code y cc nL (some .long) :: ws') (hlen : (lg_sl argv).length ≤ nL) (hc : rm.cells = 0) (hs : rm.slots = 0) (hf : f = some r)
    (body : ∀ g, gC l rm y.cls cc ws nL D tys Wf rtL g → g f 0 (lv_args 0 argv) [] σ) : gMl l y ws rm D tys Wf argv σ r := by
  intro sz
  refine Met.ofW (cc := cc) (maxL := nL) (ret := (some .long)) hy hw ?_
  intro p e s m args below meth c s₁ B hml hv
  obtain ⟨rfl, hsz, hP, hK, hD⟩ := gEntry hv
  have hx := B.exec
  have hb := B.bytes
  have hr := B.returns
  have hts := atoms_spec (ws := ws) B.pre
  have hown : s.vm.findClass y.cls = some m.cls := findClass_of_methodNamed B.named
  have hlocks := B.notSynchronized
  subst hsz
  have hl := lv_entry argv (n := nL) hlen
  rw [lg_entry_eq]
  refine body _ ⟨p, e, s, m, argv.toArray, below, meth, c, va_A (Wf σ) s.heap.size, _, r, hx, hb, hml, hown, hts, hK, fun q h => Or.inr h, rfl, ?_⟩ hf s.heap [] _ hP hD va_S.rf hl
  intro σ' pc st H locs ls hrt hP hD hS
  obtain ⟨hdg, rfl, rfl⟩ := hrt
  exact W.lret hx hb hr (fun t ht hW => ⟨⟨_, _, rfl, rfl, by rw [ht]; exact hP, hK.movedW hW, hD⟩, hS.F ht⟩) hS.2.2 hdg
theorem mk_v {T : Type} {l : Launch} {y : MethodName} {ws ws' : List Cond} {rm : Room} {D : va_G} {tys : List (ClassId × FieldType)} {Wf : T → va_W} {argv : List Value} {σ : T} {r : T} {cc : ByteArray} {nL : Nat} {f : Option T} (hy : plainName y.cls = true) (hw : ws = Cond.code y cc nL none :: ws') (hlen : (lg_sl argv).length ≤ nL) (hc : rm.cells = 0) (hs : rm.slots = 0) (hf : f = some r)
    (body : ∀ g, gC l rm y.cls cc ws nL D tys Wf rtV g → g f 0 (lv_args 0 argv) [] σ) : gMv l y ws rm D tys Wf argv σ r := by
  intro sz
  refine Met.ofW (cc := cc) (maxL := nL) (ret := none) hy hw ?_
  intro p e s m args below meth c s₁ B hml hv
  obtain ⟨rfl, hsz, hP, hK, hD⟩ := gEntry hv
  have hx := B.exec
  have hb := B.bytes
  have hr := B.returns
  have hts := atoms_spec (ws := ws) B.pre
  have hown : s.vm.findClass y.cls = some m.cls := findClass_of_methodNamed B.named
  have hlocks := B.notSynchronized
  subst hsz
  have hl := lv_entry argv (n := nL) hlen
  rw [lg_entry_eq]
  refine body _ ⟨p, e, s, m, argv.toArray, below, meth, c, va_A (Wf σ) s.heap.size, _, r, hx, hb, hml, hown, hts, hK, fun q h => Or.inr h, rfl, ?_⟩ hf s.heap [] _ hP hD va_S.rf hl
  intro σ' pc st H locs ls hrt hP hD hS
  obtain ⟨hdg, rfl, rfl⟩ := hrt
  exact W.vret hx hb hr (fun t ht hW => ⟨⟨_, rfl, rfl, by rw [ht]; exact hP, hK.movedW hW, hD⟩, hS.F ht⟩) hS.2.2 hdg
