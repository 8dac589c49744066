section
/-! ===== BEGIN words of one list among another's, by their places ===== -/
theorem goodIn_r {big : List Cond} (ws : List Cond) (ps : List Nat) (hp : ws = ps.filterMap (fun i => big[i]?)) (h : ws.all goodWord = true) : GoodIn big ws := by
  intro w hw
  have h1 := List.all_eq_true.mp h w hw
  rw [hp] at hw
  obtain ⟨i, -, hi⟩ := List.mem_filterMap.mp hw
  have hm : w ∈ big := by first | exact List.mem_of_getElem? hi | exact List.getElem?_mem hi
  exact ⟨hm, good_of_word h1⟩
theorem goodIn_app {big a b : List Cond} (ha : GoodIn big a) (hb : GoodIn big b) : GoodIn big (a ++ b) := fun w h => (List.mem_append.mp h).elim (ha w) (hb w)
theorem goodIn_ca {big a b : List Cond} {c : Cond} (ha : GoodIn big (c :: a)) (hb : GoodIn big b) : GoodIn big (c :: (a ++ b)) := fun w h => (List.mem_cons.mp h).elim (fun e => ha w (List.mem_cons.mpr (Or.inl e))) (fun h => (List.mem_append.mp h).elim (fun h => ha w (List.mem_cons.mpr (Or.inr h))) (hb w))
theorem goodIn_sub {big ws : List Cond} (hm : ∀ w ∈ ws, w ∈ big) (h : ws.all goodWord = true) : GoodIn big ws := fun w hw => ⟨hm w hw, good_of_word (List.all_eq_true.mp h w hw)⟩
/-! ===== END ===== -/

/-! ===== BEGIN exceptions that leave a method, and their catching by the caller (launches without stack traces) ===== -/
section VXA
/-! The laws vx_back, vx_callV, vx_callS, vx_callSW, vx_throw0, vx_throwS follow proofs of the library, with one case more: JvmDerived/Free/Laws.lean (Back.of_free), Shelf42/LK1.lean (callV, callS), Shelf/KitTraced.lean (throwNew0V, throwNewS). -/
/-- where a method has thrown q: the class by its name, the cell, what was written, the world -/
def vx_T (XC : String → State → State → Prop) (st : State) (q : Addr) (t : State) (mc ms : Nat) (free : Addr → Prop) : Prop :=
  ∃ (E : String) (ce : Cell) (L : List Loc), XC E st t ∧ t.heap[q]? = some ce ∧ ce.vm = .none ∧ st.vm.findClass E = some ce.cls ∧ st.WarmedH t.vm ∧ st.sameButNew ({ t with vm := st.vm } : State) L mc ms ∧ ∀ z ∈ L, free z.base
def vx_Q (Qc : Array Value → State → Outcome → State → Prop) (XC : String → State → State → Prop) (mc ms : Nat) (free : Addr → Prop) : Array Value → State → Outcome → State → Prop := fun a st o t =>
  (Qc a st o t ∧ ∃ L, FrameEnd st o t L mc ms ∧ ∀ q ∈ L, free q.base) ∨ ∃ q, o = .threw q ∧ vx_T XC st q t mc ms free
/-- a callee that returns or throws -/
def vx_Met (l : Launch) (y : MethodName) (ws : List Cond) (rm : Room) (Pc : Array Value → State → Prop) (Qc : Array Value → State → Outcome → State → Prop) (XC : String → State → State → Prop) (mc ms : Nat) (free : Addr → Prop) : Prop :=
  MetFree l y (headSpec ws rm) Pc (fun _ _ _ _ _ => True) (vx_Q Qc XC mc ms free)
def vx_Post (XC : String → State → State → Prop) (mc ms : Nat) (free : Addr → Prop) : Pt → Array Value → Addr → Pt → Prop := fun A a q B =>
  ∃ (g : JFrame) (mk : MethodId) (t : State) (L : List Loc) (E : String) (ce : Cell), B.U.heap = t.heap ∧ B.U.vm = t.vm ∧ XC E (A.U.calling g mk a) t ∧ t.heap[q]? = some ce ∧ ce.vm = .none ∧ A.U.vm.findClass E = some ce.cls ∧ B.locs = A.locs ++ L ∧ (∀ z ∈ L, free z.base) ∧ B.cells = A.cells + mc ∧ B.slots = A.slots + ms
def vx_Back (l : Launch) (R : Room) (p : Program) (e : Env) (below : List Frame) (s : State) (sargs : Array Value) (y : MethodName) (len W9 : Nat)
    (Pre : Pt → Array Value → Prop) (Post : Pt → Array Value → Option Value → Pt → Prop) (PostX : Pt → Array Value → Addr → Pt → Prop) : Prop :=
  ∀ (m : MethodId) (meth : Method) (c : Code) (A : Pt) (g : JFrame) (ig : Instr) (mk : MethodId) (a : Array Value),
    Stand p l e R s m sargs below meth c A.U A.locs A.cells A.slots → g.method = m → g.locals.size = c.maxLocals → decode c.code g.pc = .ok (ig, len) →
    2 * g.monitorRoom + (g.stack.map fun v => v.category).sum ≤ W9 → A.U.methodNamed? y = some mk → Pre A a →
    (∃ (v : Option Value) (B : Pt), Stand p l e R s m sargs below meth c B.U B.locs B.cells B.slots ∧ Post A a v B ∧
      Steps p.tables e below (doInvoke e (A.U.setTop g) [] mk a).1 (B.U.setTop { g with pc := g.pc + len, stack := v.toList ++ g.stack })) ∨
    (∃ (q : Addr) (B : Pt), Stand p l e R s m sargs below meth c B.U B.locs B.cells B.slots ∧ PostX A a q B ∧
      Steps p.tables e below (doInvoke e (A.U.setTop g) [] mk a).1 ((B.U.setTop g).pushFrame (.throwing q)))
section Payer
variable {l : Launch} {R : Room} {p : Program} {e : Env} {below : List Frame} {s : State} {sargs : Array Value} {y : MethodName} {len W9 : Nat}
theorem vx_back {ws : List Cond} {rm : Room} {Pc : Array Value → State → Prop} {Qc : Array Value → State → Outcome → State → Prop} {XC : String → State → State → Prop} {mc ms : Nat} {free : Addr → Prop} {bytes : ByteArray} {maxL : Nat} {ret : Option FieldType}
    (hM : vx_Met l y ws rm Pc Qc XC mc ms free) (hblind : FrameBlind Pc) (hrc : rm.cells = mc) (hrs : rm.slots = ms)
    (hframes : rm.frames + 1 ≤ R.frames) (hlocals : W9 + (maxL + 11) + rm.locals ≤ R.locals)
    (hws : ∀ w ∈ ws, ∀ a' U, s.WarmedH U.vm → w.before a' U = true) (hcode : Cond.code y bytes maxL ret ∈ ws) (hinit : ∀ a' U, s.WarmedH U.vm → (Cond.initialized y.cls).before a' U = true) :
    vx_Back l R p e below s sargs y len W9 (PreOf R mc ms Pc) (PostOf Qc mc ms free) (vx_Post XC mc ms free) := by
  intro m meth c A g ig mk a X hg hsize hdg hW hn hp
  have h1 : (headSpec ws rm).pre.before a A.U = true := atoms_intro fun w hw => hws w hw _ _ X.warmed
  have h2 : (Cond.code y bytes maxL ret).before a A.U = true := hws _ hcode _ _ X.warmed
  have h3 : (Cond.initialized y.cls).before a A.U = true := hinit _ _ X.warmed
  have h4 : A.cells + (headSpec ws rm).room.cells ≤ R.cells := by rw [show (headSpec ws rm).room.cells = mc from hrc]; exact hp.1
  have h5 : A.slots + (headSpec ws rm).room.slots ≤ R.slots := by rw [show (headSpec ws rm).room.slots = ms from hrs]; exact hp.2.1
  have hPc : Pc a (A.U.calling g mk a) := hblind _ _ _ _ hp.2.2
  obtain ⟨U, Ls, c0, s0⟩ := A
  dsimp only [Pt.U, Pt.locs, Pt.cells, Pt.slots] at h1 h2 h3 h4 h5 X hn hPc ⊢
  obtain ⟨methY, cY, hmY, hcY, -, hlY, -, -, -, -⟩ := Cond.code_spec hn h2
  obtain ⟨kY, hkY, -⟩ := className_of_methodNamed hn
  have hinitY : kY.init = .initialized := Cond.initialized_spec (findClass_of_methodNamed hn) hkY h3
  have h : At U g.method c below := by rw [hg]; exact X.here
  have hlocals9 : W9 + (maxL + 11) + (headSpec ws rm).room.locals ≤ R.locals := hlocals
  have happ : (headSpec ws rm).appliesLoose y e.platform (U.calling g mk a) = true :=
    Spec.appliesLoose_calling (g := g) h hdg hn hkY hinitY
      (X.room_calling (g := g) (R' := (headSpec ws rm).room) hsize hmY hcY hframes (by rw [hlY]; omega) h4 h5) h1
  obtain ⟨mid, hmid⟩ := h.above
  have hfr : (U.setTop g).frames = (.java g :: mid) ++ below := by rw [State.frames_setTop' g h.top, hmid]; rfl
  obtain ⟨o, s₂, hsteps, -, hend, hq⟩ := Steps.callFree hM p X.admits X.cas X.clock (acts := []) hfr happ hPc trivial
  have hq' : vx_Q Qc XC mc ms free a (U.calling g mk a) o s₂ := hq
  rw [State.frames_setTop' g h.top] at hend
  obtain ⟨g₀, hg0⟩ := Option.isSome_iff_exists.mp h.top
  obtain ⟨r, hr⟩ := State.topJava?_eq_some.mp hg0
  have hr' : (({ U with heap := s₂.heap, slotsUsed := s₂.slotsUsed } : State).setVm s₂.vm).frames = .java g₀ :: r := hr
  rcases hq' with ⟨hqc, L, hfe, hL⟩ | ⟨q, rfl, E, ce, L, hx, hce, hcv, hcl, hW₂, hsm, hL⟩
  · obtain ⟨⟨v, rfl⟩, hW₂, e2, q2, q3, q4, q5, q6⟩ := id hfe
    have e3 : s₂ = ({ (U.calling g mk a).setFrames s₂.frames with heap := s₂.heap, slotsUsed := s₂.slotsUsed } : State).setVm s₂.vm := by
      have : s₂ = ({ s₂ with vm := (U.calling g mk a).vm } : State).setVm s₂.vm := rfl
      rw [e2] at this
      exact this
    obtain ⟨c₂, i₂, len₂, hc₂, hd₂, hf₂⟩ := hend
    have hW' : U.WarmedH s₂.vm := hW₂
    have hcc : c₂ = c := by
      have h1 : s₂.code? g.method = U.code? g.method := by
        rw [State.code?_eq, State.code?_eq, hW'.alike.method?]
      exact Option.some.inj (hc₂.symm.trans (h1.trans h.code))
    subst hcc
    have hlen : len₂ = len := by rw [hdg] at hd₂; cases hd₂; rfl
    subst hlen
    have hs₂ : s₂ = (({ U with heap := s₂.heap, slotsUsed := s₂.slotsUsed } : State).setVm s₂.vm).setTop { g with pc := g.pc + len₂, stack := v.toList ++ g.stack } := by
      refine e3.trans ?_
      rw [hf₂, State.calling_eq h.top, State.setFrames_setFrames, State.setTop_of_frames _ hr', hr]
      rfl
    have hsame : U.sameButNew ({ U with heap := s₂.heap, slotsUsed := s₂.slotsUsed } : State) L mc ms := by
      refine ⟨?_, q2, q3, q4, q5, q6⟩
      obtain ⟨t, ht, -⟩ := State.frames_cons hr
      show ({ U with heap := s₂.heap, slotsUsed := s₂.slotsUsed } : State) = { U.setFrames U.frames with heap := s₂.heap, slotsUsed := s₂.slotsUsed }
      rw [State.setFrames_self ht]
    subst hg
    refine Or.inl ⟨v, ⟨(({ U with heap := s₂.heap, slotsUsed := s₂.slotsUsed } : State).setVm s₂.vm), Ls ++ L, c0 + mc, s0 + ms⟩,
      ⟨X.admits, X.cas, X.clock, X.frames, X.room, X.hears, X.method, X.code, (X.here.setHeapUsed s₂.heap s₂.slotsUsed).setVm hW'.alike, X.tail, State.WarmedH.trans X.warmed hW', X.limits, X.bytes, X.same.trans (hsame.setVm s.vm)⟩,
      ⟨g, mk, s₂, L, rfl, rfl, hqc, rfl, hL, rfl, rfl⟩, ?_⟩
    show Steps p.tables e below _ ((({ U with heap := s₂.heap, slotsUsed := s₂.slotsUsed } : State).setVm s₂.vm).setTop { g with pc := g.pc + len₂, stack := v.toList ++ g.stack })
    rw [← hs₂]
    exact hsteps
  · obtain ⟨e2, q2, q3, q4, q5, q6⟩ := id hsm
    have e3 : s₂ = ({ (U.calling g mk a).setFrames s₂.frames with heap := s₂.heap, slotsUsed := s₂.slotsUsed } : State).setVm s₂.vm := by
      have : s₂ = ({ s₂ with vm := (U.calling g mk a).vm } : State).setVm s₂.vm := rfl
      rw [e2] at this
      exact this
    have hf₂ : s₂.frames = .throwing q :: .java g :: U.frames.tail := hend
    have hW' : U.WarmedH s₂.vm := hW₂
    have hs₂ : s₂ = ((({ U with heap := s₂.heap, slotsUsed := s₂.slotsUsed } : State).setVm s₂.vm).setTop g).pushFrame (.throwing q) := by
      refine e3.trans ?_
      rw [hf₂, State.calling_eq h.top, State.setFrames_setFrames, State.pushFrame, State.frames_setTop _ hr', State.setTop_of_frames _ hr', State.setFrames_setFrames, hr]
      rfl
    have hsame : U.sameButNew ({ U with heap := s₂.heap, slotsUsed := s₂.slotsUsed } : State) L mc ms := by
      refine ⟨?_, q2, q3, q4, q5, q6⟩
      obtain ⟨t, ht, -⟩ := State.frames_cons hr
      show ({ U with heap := s₂.heap, slotsUsed := s₂.slotsUsed } : State) = { U.setFrames U.frames with heap := s₂.heap, slotsUsed := s₂.slotsUsed }
      rw [State.setFrames_self ht]
    subst hg
    refine Or.inr ⟨q, ⟨(({ U with heap := s₂.heap, slotsUsed := s₂.slotsUsed } : State).setVm s₂.vm), Ls ++ L, c0 + mc, s0 + ms⟩,
      ⟨X.admits, X.cas, X.clock, X.frames, X.room, X.hears, X.method, X.code, (X.here.setHeapUsed s₂.heap s₂.slotsUsed).setVm hW'.alike, X.tail, State.WarmedH.trans X.warmed hW', X.limits, X.bytes, X.same.trans (hsame.setVm s.vm)⟩,
      ⟨g, mk, s₂, L, E, ce, rfl, rfl, hx, hce, hcv, hcl, rfl, hL, rfl, rfl⟩, ?_⟩
    show Steps p.tables e below _ (((({ U with heap := s₂.heap, slotsUsed := s₂.slotsUsed } : State).setVm s₂.vm).setTop g).pushFrame (.throwing q))
    rw [← hs₂]
    exact hsteps
end Payer
section Calls
variable {p : Program} {l : Launch} {e : Env} {R : Room} {s : State} {m : MethodId} {args : Array Value} {below : List Frame} {meth : Method} {c : Code} {T : State} {locs : List Loc} {cells slots : Nat}
theorem vx_callV (X : Stand p l e R s m args below meth c T locs cells slots) (hexec : p.tables.exec = Jvm.exec) {own C : String} {index : Nat} {y : MethodName} {bytes : ByteArray} {maxL : Nat} {ret : Option FieldType}
    (hown : s.vm.findClass own = some m.cls) (hlink : (Cond.methodLink own index y).before args s = true) (hinst : (Cond.instanceMethod y).before args s = true) (hsel : (Cond.selects C y y).before args s = true)
    (hcode : (Cond.code y bytes maxL ret).before args s = true) (hy : y.cls ≠ "java/lang/invoke/MethodHandle" ∧ y.cls ≠ "java/lang/invoke/VarHandle")
    {W9 : Nat} {Pre : Pt → Array Value → Prop} {Post : Pt → Array Value → Option Value → Pt → Prop} {PostX : Pt → Array Value → Addr → Pt → Prop} (hK : vx_Back l R p e below s args y 3 W9 Pre Post PostX)
    {b : Addr} {cellB : Cell} (hcell : T.heap[b]? = some cellB) (hobj : cellB.vm.isStatics = false) (hcls : s.vm.findClass C = some cellB.cls)
    {g : JFrame} (hg : g.method = m) (hsize : g.locals.size = c.maxLocals) {argsL rest : List Value} (hlen : ∀ sig, parseMethodDescriptor y.desc = some sig → argsL.length = sig.parameters.length)
    (hstack : g.stack = argsL.reverse ++ .ref b :: rest) (hW : 2 * g.monitorRoom + (rest.map fun v => v.category).sum ≤ W9) (hdg : decode c.code g.pc = .ok (.invokevirtual index, 3))
    (hpre : ∀ vm₁, s.WarmedH vm₁ → Pre ⟨T.setVm vm₁, locs, cells, slots⟩ (Value.ref b :: argsL).toArray) :
    (∃ (v : Option Value) (vm₁ : Vm) (B : Pt), s.WarmedH vm₁ ∧ Stand p l e R s m args below meth c B.U B.locs B.cells B.slots ∧ Post ⟨T.setVm vm₁, locs, cells, slots⟩ (Value.ref b :: argsL).toArray v B ∧
      ∀ target, Steps p.tables e below (B.U.setTop { g with pc := g.pc + 3, stack := v.toList ++ rest }) target → Steps p.tables e below (T.setTop g) target) ∨
    (∃ (q : Addr) (vm₁ : Vm) (B : Pt), s.WarmedH vm₁ ∧ Stand p l e R s m args below meth c B.U B.locs B.cells B.slots ∧ PostX ⟨T.setVm vm₁, locs, cells, slots⟩ (Value.ref b :: argsL).toArray q B ∧
      Steps p.tables e below (T.setTop g) ((B.U.setTop { g with stack := rest }).pushFrame (.throwing q))) := by
  obtain ⟨mk, methM, hnamed, hmethM, hstM, habM⟩ := Cond.instanceMethod_spec hinst
  obtain ⟨methM', cM, hmethM', -, -, -, -, -, -, hsigM⟩ := Cond.code_spec hnamed hcode
  cases hmethM.symm.trans hmethM'
  obtain ⟨c2, r2, m2, q1, q2, q3, q4, kP, hkP, hkPi⟩ := Cond.selects_spec hsel
  cases hcls.symm.trans q1
  cases (State.methodFound?_of_named hnamed hy).symm.trans q2
  cases hnamed.symm.trans q3
  have hselP : selectMethod e.platform s.vm cellB.cls mk = .method mk := by rw [Launch.admits_selectMethod X.admits]; exact q4
  obtain ⟨vm₁, X₁, hstep₁⟩ := X.invokevirtual hexec hown hlink hnamed hmethM hstM hkP hkPi hy (a := b) (cell := cellB) hcell
    (fun z h => by rw [h] at hobj; cases hobj) hselP hmethM habM hkP hkPi (g := g) hg (argsL := argsL) (rest := rest) (hlen _ hsigM) hstack hdg
  rcases hK m meth c ⟨T.setVm vm₁, locs, cells, slots⟩ { g with stack := rest } (.invokevirtual index) mk (Value.ref b :: argsL).toArray X₁ hg hsize hdg hW (X₁.named hnamed) (hpre vm₁ X₁.warmed) with ⟨v, B, X', hpost, hsteps⟩ | ⟨q, B, X', hpost, hsteps⟩
  · exact Or.inl ⟨v, vm₁, B, X₁.warmed, X', hpost, fun target h => hstep₁ _ fun acts => by rw [doInvoke_state]; exact hsteps.trans h⟩
  · exact Or.inr ⟨q, vm₁, B, X₁.warmed, X', hpost, hstep₁ _ fun acts => by rw [doInvoke_state]; exact hsteps⟩
theorem vx_callS (X : Stand p l e R s m args below meth c T locs cells slots) (hexec : p.tables.exec = Jvm.exec) {own : String} {index : Nat} {y : MethodName} {bytes : ByteArray} {maxL : Nat} {ret : Option FieldType}
    (hown : s.vm.findClass own = some m.cls) (hlink : (Cond.methodLink own index y).before args s = true) (hstat : (Cond.static y).before args s = true) (hinit : (Cond.initialized y.cls).before args s = true)
    (hcode : (Cond.code y bytes maxL ret).before args s = true) (hy : y.cls ≠ "java/lang/invoke/MethodHandle" ∧ y.cls ≠ "java/lang/invoke/VarHandle")
    {W9 : Nat} {Pre : Pt → Array Value → Prop} {Post : Pt → Array Value → Option Value → Pt → Prop} {PostX : Pt → Array Value → Addr → Pt → Prop} (hK : vx_Back l R p e below s args y 3 W9 Pre Post PostX)
    {g : JFrame} (hg : g.method = m) (hsize : g.locals.size = c.maxLocals) {argsL rest : List Value} (hlen : ∀ sig, parseMethodDescriptor y.desc = some sig → argsL.length = sig.parameters.length)
    (hstack : g.stack = argsL.reverse ++ rest) (hW : 2 * g.monitorRoom + (rest.map fun v => v.category).sum ≤ W9) (hdg : decode c.code g.pc = .ok (.invokestatic index, 3))
    (hpre : ∀ vm₁, s.WarmedH vm₁ → Pre ⟨T.setVm vm₁, locs, cells, slots⟩ argsL.toArray) :
    (∃ (v : Option Value) (vm₁ : Vm) (B : Pt), s.WarmedH vm₁ ∧ Stand p l e R s m args below meth c B.U B.locs B.cells B.slots ∧ Post ⟨T.setVm vm₁, locs, cells, slots⟩ argsL.toArray v B ∧
      ∀ target, Steps p.tables e below (B.U.setTop { g with pc := g.pc + 3, stack := v.toList ++ rest }) target → Steps p.tables e below (T.setTop g) target) ∨
    (∃ (q : Addr) (vm₁ : Vm) (B : Pt), s.WarmedH vm₁ ∧ Stand p l e R s m args below meth c B.U B.locs B.cells B.slots ∧ PostX ⟨T.setVm vm₁, locs, cells, slots⟩ argsL.toArray q B ∧
      Steps p.tables e below (T.setTop g) ((B.U.setTop { g with stack := rest }).pushFrame (.throwing q))) := by
  obtain ⟨mk, hnamed⟩ := Cond.code_named hcode
  obtain ⟨methM, cM, hmethM, -, -, -, -, -, -, hsigM⟩ := Cond.code_spec hnamed hcode
  have hstatic : methM.isStatic = true := Cond.static_spec hnamed hmethM hstat
  obtain ⟨kP, hkP, -⟩ := className_of_methodNamed hnamed
  have hinitP : kP.init = .initialized := Cond.initialized_spec (findClass_of_methodNamed hnamed) hkP hinit
  obtain ⟨vm₁, X₁, hstep₁⟩ := X.invokestatic hexec hown hlink hnamed hmethM hstatic hkP hinitP hy (g := g) hg (argsL := argsL) (rest := rest) (hlen _ hsigM) hstack hdg
  rcases hK m meth c ⟨T.setVm vm₁, locs, cells, slots⟩ { g with stack := rest } (.invokestatic index) mk argsL.toArray X₁ hg hsize hdg hW (X₁.named hnamed) (hpre vm₁ X₁.warmed) with ⟨v, B, X', hpost, hsteps⟩ | ⟨q, B, X', hpost, hsteps⟩
  · exact Or.inl ⟨v, vm₁, B, X₁.warmed, X', hpost, fun target h => hstep₁ _ fun acts => by rw [doInvoke_state]; exact hsteps.trans h⟩
  · exact Or.inr ⟨q, vm₁, B, X₁.warmed, X', hpost, hstep₁ _ fun acts => by rw [doInvoke_state]; exact hsteps⟩
end Calls
theorem vx_cls {s : State} {T : State} {vm₁ : Vm} {E : String} {k : ClassId} (hW : s.WarmedH vm₁) (h : (T.setVm vm₁).vm.findClass E = some k) : s.vm.findClass E = some k := by
  have h1 : vm₁.findClass E = some k := h
  rw [hW.alike.findClass] at h1
  exact h1
/-- the method's frame g, with q thrown over it -/
def vx_W (p : Program) (l : Launch) (e : Env) (R : Room) (s : State) (m : MethodId) (args : Array Value) (below : List Frame) (meth : Method) (c : Code) (H : Heap) (locs : List Loc) (cells slots : Nat) (Q : State → Prop) (g : JFrame) (q : Addr) : Prop :=
  ∀ T : State, T.heap = H → Stand p l e R s m args below meth c T locs cells slots → ∃ t, Steps p.tables e below ((T.setTop g).pushFrame (.throwing q)) t ∧ Q t
def vx_Run (p : Program) (l : Launch) (e : Env) (R : Room) (s : State) (m : MethodId) (args : Array Value) (below : List Frame) (meth : Method) (c : Code) (H : Heap) (locs : List Loc) (cells slots mc ms : Nat) (g : JFrame) (rest : List Value) (Qa : State → Outcome → State → Prop) (XC : String → State → State → Prop) (free : Addr → Prop) : Prop :=
  ∀ T : State, T.heap = H → Stand p l e R s m args below meth c T locs cells slots →
    (∃ (v : Option Value) (st₀ t T' : State) (L : List Loc), st₀.heap = H ∧ Stand p l e R s m args below meth c T' (locs ++ L) (cells + mc) (slots + ms) ∧ (∀ q ∈ L, free q.base) ∧ T'.heap = t.heap ∧ T'.vm = t.vm ∧ Qa st₀ (.returned v) t ∧
      Goes p e below T g T' { g with pc := g.pc + 3, stack := v.toList ++ rest }) ∨
    (∃ (q : Addr) (st₀ t T' : State) (L : List Loc) (E : String) (ce : Cell), st₀.heap = H ∧ Stand p l e R s m args below meth c T' (locs ++ L) (cells + mc) (slots + ms) ∧ (∀ z ∈ L, free z.base) ∧ T'.heap = t.heap ∧ T'.vm = t.vm ∧ XC E st₀ t ∧ t.heap[q]? = some ce ∧ ce.vm = .none ∧ s.vm.findClass E = some ce.cls ∧
      Steps p.tables e below (T.setTop g) ((T'.setTop { g with stack := rest }).pushFrame (.throwing q)))
def vx_X {S : Type} (px : S → Prop) (B : String → S → State → Prop) (A : Nat → Prop) : String → State → State → Prop := fun E st t => ∃ u : S, px u ∧ B E u t ∧ va_F A st t
section Runs
variable {p : Program} {l : Launch} {e : Env} {R : Room} {s : State} {m : MethodId} {args : Array Value} {below : List Frame} {meth : Method} {c : Code} {H : Heap} {locs : List Loc} {cells slots : Nat}
variable {y : MethodName} {bytes cc : ByteArray} {maxL nL mc ms n index : Nat} {ret : Option FieldType} {ws : List Cond} {rm : Room} {Pc : Array Value → State → Prop} {Qc : Array Value → State → Outcome → State → Prop} {XC : String → State → State → Prop} {free : Addr → Prop} {Ts : List Cond} {own C : String} {b : Addr} {As rest : List Value} {g : JFrame}
theorem vx_callBack (cb : CallB R s args own index y bytes maxL ret ws rm mc ms n) (hM : vx_Met l y ws rm Pc Qc XC mc ms free) (hbl : FrameBlind Pc) : vx_Back l R p e below s args y 3 8 (PreOf R mc ms Pc) (PostOf Qc mc ms free) (vx_Post XC mc ms free) := by
  obtain ⟨hrc, hrs, hfr, hlo, hws, hcw, -, hini, -⟩ := cb
  exact vx_back (bytes := bytes) (maxL := maxL) (ret := ret) hM hbl hrc hrs hfr hlo hws hcw (fun a' U hW => word_at hW (Or.inl (by first | rfl | simp [Cond.onTables, Cond.keeps, Cond.steady])) hini)
theorem vx_runV (S : CallFix p m c cc nL s args Ts own) (hM : vx_Met l y ws rm Pc Qc XC mc ms free) (cw : CallW R s args own C index y bytes maxL ret ws rm mc ms n) (hp : PreV s H C b Pc As)
    (hg : g.method = m) (hn : As.length = n) (hsize : g.locals.size = nL) (hstack : g.stack = As.reverse ++ .ref b :: rest) (hW : 2 * g.monitorRoom + (rest.map fun v => v.category).sum ≤ 8) (hdg : decode cc g.pc = .ok (.invokevirtual index, 3)) (hf : cells + mc ≤ R.cells ∧ slots + ms ≤ R.slots) :
    vx_Run p l e R s m args below meth c H locs cells slots mc ms g rest (Qc (Value.ref b :: As).toArray) XC free := by
  have hK : vx_Back l R p e below s args y 3 8 (PreOf R mc ms Pc) (PostOf Qc mc ms free) (vx_Post XC mc ms free) := vx_callBack cw.1 hM hp.1
  obtain ⟨⟨-, -, -, -, -, -, hcode, -, hy, hlen, hl⟩, hin, hse⟩ := cw
  obtain ⟨hx, hb, hml, ho, -⟩ := S
  obtain ⟨-, ⟨cellB, hcB, hoB, hclB⟩, hPc⟩ := hp
  intro T hT X
  rcases vx_callV X hx (C := C) (bytes := bytes) (maxL := maxL) (ret := ret) ho hl hin hse hcode hy hK (by rw [hT]; exact hcB) hoB hclB hg (hsize.trans hml.symm) (argsL := As) (rest := rest) (fun sig h => hn.trans (hlen sig h)) hstack hW (by rw [hb]; exact hdg)
    (fun vm₁ hW₁ => ⟨hf.1, hf.2, hPc (T.setVm vm₁) hT hW₁⟩) with ⟨v, vm₁, ⟨U', l2, c2, s2⟩, hW₁, X', ⟨g', mk, t, L, e1, e2, hq, h1, hL, h2, h3⟩, st⟩ | ⟨q, vm₁, ⟨U', l2, c2, s2⟩, hW₁, X', ⟨g', mk, t, L, E, ce, e1, e2, hq, hce, hcv, hcl, h1, hL, h2, h3⟩, st⟩
  · dsimp only [Pt.U, Pt.locs, Pt.cells, Pt.slots] at X' e1 e2 h1 h2 h3 st
    subst h1; subst h2; subst h3
    exact Or.inl ⟨v, (T.setVm vm₁).calling g' mk (Value.ref b :: As).toArray, t, U', L, hT, X', hL, e1, e2, hq, st⟩
  · dsimp only [Pt.U, Pt.locs, Pt.cells, Pt.slots] at X' e1 e2 h1 h2 h3 st hcl
    subst h1; subst h2; subst h3
    exact Or.inr ⟨q, (T.setVm vm₁).calling g' mk (Value.ref b :: As).toArray, t, U', L, E, ce, hT, X', hL, e1, e2, hq, hce, hcv, vx_cls hW₁ hcl, st⟩
theorem vx_runS (S : CallFix p m c cc nL s args Ts own) (hM : vx_Met l y ws rm Pc Qc XC mc ms free) (cw : CallB R s args own index y bytes maxL ret ws rm mc ms n ∧ (Cond.static y).before args s = true) (hp : PreS s H Pc As)
    (hg : g.method = m) (hn : As.length = n) (hsize : g.locals.size = nL) (hstack : g.stack = As.reverse ++ rest) (hW : 2 * g.monitorRoom + (rest.map fun v => v.category).sum ≤ 8) (hdg : decode cc g.pc = .ok (.invokestatic index, 3)) (hf : cells + mc ≤ R.cells ∧ slots + ms ≤ R.slots) :
    vx_Run p l e R s m args below meth c H locs cells slots mc ms g rest (Qc As.toArray) XC free := by
  have hK : vx_Back l R p e below s args y 3 8 (PreOf R mc ms Pc) (PostOf Qc mc ms free) (vx_Post XC mc ms free) := vx_callBack cw.1 hM hp.1
  obtain ⟨⟨-, -, -, -, -, -, hcode, hini, hy, hlen, hl⟩, hstt⟩ := cw
  obtain ⟨hx, hb, hml, ho, -⟩ := S
  intro T hT X
  rcases vx_callS X hx (bytes := bytes) (maxL := maxL) (ret := ret) ho hl hstt hini hcode hy hK hg (hsize.trans hml.symm) (argsL := As) (rest := rest) (fun sig h => hn.trans (hlen sig h)) hstack hW (by rw [hb]; exact hdg)
    (fun vm₁ hW₁ => ⟨hf.1, hf.2, hp.2 (T.setVm vm₁) hT hW₁⟩) with ⟨v, vm₁, ⟨U', l2, c2, s2⟩, hW₁, X', ⟨g', mk, t, L, e1, e2, hq, h1, hL, h2, h3⟩, st⟩ | ⟨q, vm₁, ⟨U', l2, c2, s2⟩, hW₁, X', ⟨g', mk, t, L, E, ce, e1, e2, hq, hce, hcv, hcl, h1, hL, h2, h3⟩, st⟩
  · dsimp only [Pt.U, Pt.locs, Pt.cells, Pt.slots] at X' e1 e2 h1 h2 h3 st
    subst h1; subst h2; subst h3
    exact Or.inl ⟨v, (T.setVm vm₁).calling g' mk As.toArray, t, U', L, hT, X', hL, e1, e2, hq, st⟩
  · dsimp only [Pt.U, Pt.locs, Pt.cells, Pt.slots] at X' e1 e2 h1 h2 h3 st hcl
    subst h1; subst h2; subst h3
    exact Or.inr ⟨q, (T.setVm vm₁).calling g' mk As.toArray, t, U', L, E, ce, hT, X', hL, e1, e2, hq, hce, hcv, vx_cls hW₁ hcl, st⟩
end Runs
section Rows
variable {p : Program} {l : Launch} {e : Env} {R : Room} {s : State} {m : MethodId} {args : Array Value} {below : List Frame} {meth : Method} {c : Code} {H : Heap} {locs : List Loc} {cells slots : Nat} {Q : State → Prop}
variable {mc ms : Nat} {free : Addr → Prop} {A0 A1 : Nat → Prop} {H0 : Heap} {a : Array Value} {pc : Nat} {ls : Array Slot} {st0 rest : List Value}
theorem vx_keep {st₀ t T' : State} {L : List Loc} (h0 : st₀.heap = H) (e1 : T'.heap = t.heap) (hS : va_S A0 H0 H locs) (hA : ∀ q, q < H.size → A1 q → A0 q) (hf : ∀ q, free q → A0 q) (hL : ∀ q ∈ L, free q.base) (hF : va_F A1 st₀ t) :
    H.size ≤ T'.heap.size ∧ (∀ q : Nat, q < H.size → ¬ A1 q → T'.heap[q]? = H[q]?) ∧ va_S A0 H0 T'.heap (locs ++ L) := by
  obtain ⟨hz, hk⟩ := hF
  rw [h0] at hz hk
  exact ⟨by rw [e1]; exact hz, fun q h1 h2 => by rw [e1]; exact hk q h1 h2,
    ⟨Nat.le_trans hS.1 (by rw [e1]; exact hz), fun q h1 h2 => by rw [e1, hk q (Nat.lt_of_lt_of_le h1 hS.1) (fun z => h2 (hA q (Nat.lt_of_lt_of_le h1 hS.1) z))]; exact hS.2.1 q h1 h2, fun q hq => by
      rcases List.mem_append.mp hq with h | h
      · exact hS.2.2 q h
      · exact hf _ (hL q h)⟩⟩
theorem vx_calli {S SX : Type} {post : Int32 → S → Prop} {px : SX → Prop} {B : S → State → Prop} {BX : String → SX → State → Prop} {AX : Nat → Prop} (hr : vx_Run p l e R s m args below meth c H locs cells slots mc ms (F0 m pc ls st0) rest (va_Qi post B A1 a) (vx_X px BX AX) free) (hS : va_S A0 H0 H locs) (hA : ∀ q, q < H.size → A1 q → A0 q) (hf : ∀ q, free q → A0 q) (hAX : ∀ q, q < H.size → AX q → A0 q)
    (kx : ∀ (E : String) (ce : Cell) (q9 : Addr) (u : SX) (t : State) (H1 : Heap) (locs1 : List Loc), t.heap = H1 → s.vm.Alike t.vm → px u → BX E u t → H.size ≤ H1.size → (∀ q : Nat, q < H.size → ¬ AX q → H1[q]? = H[q]?) → va_S A0 H0 H1 locs1 → H1[q9]? = some ce → ce.vm = .none → s.vm.findClass E = some ce.cls → vx_W p l e R s m args below meth c H1 locs1 (cells + mc) (slots + ms) Q (F0 m pc ls rest) q9)
    (kk : ∀ (r : Int32) (u : S) (t : State) (H1 : Heap) (locs1 : List Loc), t.heap = H1 → s.vm.Alike t.vm → post r u → B u t → H.size ≤ H1.size → (∀ q : Nat, q < H.size → ¬ A1 q → H1[q]? = H[q]?) → va_S A0 H0 H1 locs1 → W p l e R s m args below meth c H1 locs1 (cells + mc) (slots + ms) Q (F0 m (pc + 3) ls (.int r :: rest))) : W p l e R s m args below meth c H locs cells slots Q (F0 m pc ls st0) := by
  intro T hT X
  rcases hr T hT X with ⟨v, st₀, t, T', L, h0, X', hL, e1, e2, ⟨⟨r, u, hv, hp, hb⟩, hF⟩, st⟩ | ⟨q, st₀, t, T', L, E, ce, h0, X', hL, e1, e2, ⟨u, hp, hb, hF⟩, hce, hcv, hcl, st⟩
  · cases hv
    obtain ⟨k1, k2, k3⟩ := vx_keep h0 e1 hS hA hf hL hF
    obtain ⟨t2, a1, b1⟩ := kk r u t T'.heap (locs ++ L) e1.symm (by rw [← e2]; exact X'.warmed.alike) hp hb k1 k2 k3 T' rfl X'
    exact ⟨t2, st t2 a1, b1⟩
  · obtain ⟨k1, k2, k3⟩ := vx_keep h0 e1 hS hAX hf hL hF
    obtain ⟨t2, a1, b1⟩ := kx E ce q u t T'.heap (locs ++ L) e1.symm (by rw [← e2]; exact X'.warmed.alike) hp hb k1 k2 k3 (by rw [e1]; exact hce) hcv hcl T' rfl X'
    exact ⟨t2, st.trans a1, b1⟩
theorem vx_calll {S SX : Type} {post : Int64 → S → Prop} {px : SX → Prop} {B : S → State → Prop} {BX : String → SX → State → Prop} {AX : Nat → Prop} (hr : vx_Run p l e R s m args below meth c H locs cells slots mc ms (F0 m pc ls st0) rest (va_Ql post B A1 a) (vx_X px BX AX) free) (hS : va_S A0 H0 H locs) (hA : ∀ q, q < H.size → A1 q → A0 q) (hf : ∀ q, free q → A0 q) (hAX : ∀ q, q < H.size → AX q → A0 q)
    (kx : ∀ (E : String) (ce : Cell) (q9 : Addr) (u : SX) (t : State) (H1 : Heap) (locs1 : List Loc), t.heap = H1 → s.vm.Alike t.vm → px u → BX E u t → H.size ≤ H1.size → (∀ q : Nat, q < H.size → ¬ AX q → H1[q]? = H[q]?) → va_S A0 H0 H1 locs1 → H1[q9]? = some ce → ce.vm = .none → s.vm.findClass E = some ce.cls → vx_W p l e R s m args below meth c H1 locs1 (cells + mc) (slots + ms) Q (F0 m pc ls rest) q9)
    (kk : ∀ (r : Int64) (u : S) (t : State) (H1 : Heap) (locs1 : List Loc), t.heap = H1 → s.vm.Alike t.vm → post r u → B u t → H.size ≤ H1.size → (∀ q : Nat, q < H.size → ¬ A1 q → H1[q]? = H[q]?) → va_S A0 H0 H1 locs1 → W p l e R s m args below meth c H1 locs1 (cells + mc) (slots + ms) Q (F0 m (pc + 3) ls (.long r :: rest))) : W p l e R s m args below meth c H locs cells slots Q (F0 m pc ls st0) := by
  intro T hT X
  rcases hr T hT X with ⟨v, st₀, t, T', L, h0, X', hL, e1, e2, ⟨⟨r, u, hv, hp, hb⟩, hF⟩, st⟩ | ⟨q, st₀, t, T', L, E, ce, h0, X', hL, e1, e2, ⟨u, hp, hb, hF⟩, hce, hcv, hcl, st⟩
  · cases hv
    obtain ⟨k1, k2, k3⟩ := vx_keep h0 e1 hS hA hf hL hF
    obtain ⟨t2, a1, b1⟩ := kk r u t T'.heap (locs ++ L) e1.symm (by rw [← e2]; exact X'.warmed.alike) hp hb k1 k2 k3 T' rfl X'
    exact ⟨t2, st t2 a1, b1⟩
  · obtain ⟨k1, k2, k3⟩ := vx_keep h0 e1 hS hAX hf hL hF
    obtain ⟨t2, a1, b1⟩ := kx E ce q u t T'.heap (locs ++ L) e1.symm (by rw [← e2]; exact X'.warmed.alike) hp hb k1 k2 k3 (by rw [e1]; exact hce) hcv hcl T' rfl X'
    exact ⟨t2, st.trans a1, b1⟩
theorem vx_callf {S SX : Type} {post : UInt32 → S → Prop} {px : SX → Prop} {B : S → State → Prop} {BX : String → SX → State → Prop} {AX : Nat → Prop} (hr : vx_Run p l e R s m args below meth c H locs cells slots mc ms (F0 m pc ls st0) rest (va_Qf post B A1 a) (vx_X px BX AX) free) (hS : va_S A0 H0 H locs) (hA : ∀ q, q < H.size → A1 q → A0 q) (hf : ∀ q, free q → A0 q) (hAX : ∀ q, q < H.size → AX q → A0 q)
    (kx : ∀ (E : String) (ce : Cell) (q9 : Addr) (u : SX) (t : State) (H1 : Heap) (locs1 : List Loc), t.heap = H1 → s.vm.Alike t.vm → px u → BX E u t → H.size ≤ H1.size → (∀ q : Nat, q < H.size → ¬ AX q → H1[q]? = H[q]?) → va_S A0 H0 H1 locs1 → H1[q9]? = some ce → ce.vm = .none → s.vm.findClass E = some ce.cls → vx_W p l e R s m args below meth c H1 locs1 (cells + mc) (slots + ms) Q (F0 m pc ls rest) q9)
    (kk : ∀ (r : UInt32) (u : S) (t : State) (H1 : Heap) (locs1 : List Loc), t.heap = H1 → s.vm.Alike t.vm → post r u → B u t → H.size ≤ H1.size → (∀ q : Nat, q < H.size → ¬ A1 q → H1[q]? = H[q]?) → va_S A0 H0 H1 locs1 → W p l e R s m args below meth c H1 locs1 (cells + mc) (slots + ms) Q (F0 m (pc + 3) ls (.float r :: rest))) : W p l e R s m args below meth c H locs cells slots Q (F0 m pc ls st0) := by
  intro T hT X
  rcases hr T hT X with ⟨v, st₀, t, T', L, h0, X', hL, e1, e2, ⟨⟨r, u, hv, hp, hb⟩, hF⟩, st⟩ | ⟨q, st₀, t, T', L, E, ce, h0, X', hL, e1, e2, ⟨u, hp, hb, hF⟩, hce, hcv, hcl, st⟩
  · cases hv
    obtain ⟨k1, k2, k3⟩ := vx_keep h0 e1 hS hA hf hL hF
    obtain ⟨t2, a1, b1⟩ := kk r u t T'.heap (locs ++ L) e1.symm (by rw [← e2]; exact X'.warmed.alike) hp hb k1 k2 k3 T' rfl X'
    exact ⟨t2, st t2 a1, b1⟩
  · obtain ⟨k1, k2, k3⟩ := vx_keep h0 e1 hS hAX hf hL hF
    obtain ⟨t2, a1, b1⟩ := kx E ce q u t T'.heap (locs ++ L) e1.symm (by rw [← e2]; exact X'.warmed.alike) hp hb k1 k2 k3 (by rw [e1]; exact hce) hcv hcl T' rfl X'
    exact ⟨t2, st.trans a1, b1⟩
theorem vx_calld {S SX : Type} {post : UInt64 → S → Prop} {px : SX → Prop} {B : S → State → Prop} {BX : String → SX → State → Prop} {AX : Nat → Prop} (hr : vx_Run p l e R s m args below meth c H locs cells slots mc ms (F0 m pc ls st0) rest (va_Qd post B A1 a) (vx_X px BX AX) free) (hS : va_S A0 H0 H locs) (hA : ∀ q, q < H.size → A1 q → A0 q) (hf : ∀ q, free q → A0 q) (hAX : ∀ q, q < H.size → AX q → A0 q)
    (kx : ∀ (E : String) (ce : Cell) (q9 : Addr) (u : SX) (t : State) (H1 : Heap) (locs1 : List Loc), t.heap = H1 → s.vm.Alike t.vm → px u → BX E u t → H.size ≤ H1.size → (∀ q : Nat, q < H.size → ¬ AX q → H1[q]? = H[q]?) → va_S A0 H0 H1 locs1 → H1[q9]? = some ce → ce.vm = .none → s.vm.findClass E = some ce.cls → vx_W p l e R s m args below meth c H1 locs1 (cells + mc) (slots + ms) Q (F0 m pc ls rest) q9)
    (kk : ∀ (r : UInt64) (u : S) (t : State) (H1 : Heap) (locs1 : List Loc), t.heap = H1 → s.vm.Alike t.vm → post r u → B u t → H.size ≤ H1.size → (∀ q : Nat, q < H.size → ¬ A1 q → H1[q]? = H[q]?) → va_S A0 H0 H1 locs1 → W p l e R s m args below meth c H1 locs1 (cells + mc) (slots + ms) Q (F0 m (pc + 3) ls (.double r :: rest))) : W p l e R s m args below meth c H locs cells slots Q (F0 m pc ls st0) := by
  intro T hT X
  rcases hr T hT X with ⟨v, st₀, t, T', L, h0, X', hL, e1, e2, ⟨⟨r, u, hv, hp, hb⟩, hF⟩, st⟩ | ⟨q, st₀, t, T', L, E, ce, h0, X', hL, e1, e2, ⟨u, hp, hb, hF⟩, hce, hcv, hcl, st⟩
  · cases hv
    obtain ⟨k1, k2, k3⟩ := vx_keep h0 e1 hS hA hf hL hF
    obtain ⟨t2, a1, b1⟩ := kk r u t T'.heap (locs ++ L) e1.symm (by rw [← e2]; exact X'.warmed.alike) hp hb k1 k2 k3 T' rfl X'
    exact ⟨t2, st t2 a1, b1⟩
  · obtain ⟨k1, k2, k3⟩ := vx_keep h0 e1 hS hAX hf hL hF
    obtain ⟨t2, a1, b1⟩ := kx E ce q u t T'.heap (locs ++ L) e1.symm (by rw [← e2]; exact X'.warmed.alike) hp hb k1 k2 k3 (by rw [e1]; exact hce) hcv hcl T' rfl X'
    exact ⟨t2, st.trans a1, b1⟩
theorem vx_callv {S SX : Type} {post : S → Prop} {px : SX → Prop} {B : S → State → Prop} {BX : String → SX → State → Prop} {AX : Nat → Prop} (hr : vx_Run p l e R s m args below meth c H locs cells slots mc ms (F0 m pc ls st0) rest (va_Qv post B A1 a) (vx_X px BX AX) free) (hS : va_S A0 H0 H locs) (hA : ∀ q, q < H.size → A1 q → A0 q) (hf : ∀ q, free q → A0 q) (hAX : ∀ q, q < H.size → AX q → A0 q)
    (kx : ∀ (E : String) (ce : Cell) (q9 : Addr) (u : SX) (t : State) (H1 : Heap) (locs1 : List Loc), t.heap = H1 → s.vm.Alike t.vm → px u → BX E u t → H.size ≤ H1.size → (∀ q : Nat, q < H.size → ¬ AX q → H1[q]? = H[q]?) → va_S A0 H0 H1 locs1 → H1[q9]? = some ce → ce.vm = .none → s.vm.findClass E = some ce.cls → vx_W p l e R s m args below meth c H1 locs1 (cells + mc) (slots + ms) Q (F0 m pc ls rest) q9)
    (kk : ∀ (u : S) (t : State) (H1 : Heap) (locs1 : List Loc), t.heap = H1 → s.vm.Alike t.vm → post u → B u t → H.size ≤ H1.size → (∀ q : Nat, q < H.size → ¬ A1 q → H1[q]? = H[q]?) → va_S A0 H0 H1 locs1 → W p l e R s m args below meth c H1 locs1 (cells + mc) (slots + ms) Q (F0 m (pc + 3) ls (rest))) : W p l e R s m args below meth c H locs cells slots Q (F0 m pc ls st0) := by
  intro T hT X
  rcases hr T hT X with ⟨v, st₀, t, T', L, h0, X', hL, e1, e2, ⟨⟨u, hv, hp, hb⟩, hF⟩, st⟩ | ⟨q, st₀, t, T', L, E, ce, h0, X', hL, e1, e2, ⟨u, hp, hb, hF⟩, hce, hcv, hcl, st⟩
  · cases hv
    obtain ⟨k1, k2, k3⟩ := vx_keep h0 e1 hS hA hf hL hF
    obtain ⟨t2, a1, b1⟩ := kk u t T'.heap (locs ++ L) e1.symm (by rw [← e2]; exact X'.warmed.alike) hp hb k1 k2 k3 T' rfl X'
    exact ⟨t2, st t2 a1, b1⟩
  · obtain ⟨k1, k2, k3⟩ := vx_keep h0 e1 hS hAX hf hL hF
    obtain ⟨t2, a1, b1⟩ := kx E ce q u t T'.heap (locs ++ L) e1.symm (by rw [← e2]; exact X'.warmed.alike) hp hb k1 k2 k3 (by rw [e1]; exact hce) hcv hcl T' rfl X'
    exact ⟨t2, st.trans a1, b1⟩
end Rows
section Ends
variable {p : Program} {l : Launch} {e : Env} {R : Room} {s : State} {m : MethodId} {args : Array Value} {below : List Frame} {meth : Method} {c : Code} {H : Heap} {locs : List Loc} {cells slots : Nat} {Q : State → Prop}
variable {mc ms : Nat} {free : Addr → Prop} {A0 A1 : Nat → Prop} {H0 : Heap} {a : Array Value} {ls : Array Slot} {st0 rest : List Value}
variable {Qc : Array Value → State → Outcome → State → Prop} {XC : String → State → State → Prop}
/-- what a body that may throw owes at its end -/
def vx_MQ (below : List Frame) (Qc : Array Value → State → Outcome → State → Prop) (XC : String → State → State → Prop) (a : Array Value) (s : State) (mc ms : Nat) (free : Addr → Prop) : State → Prop := fun t =>
  ∃ o, t.status = .running ∧ Ended t below o ∧ vx_Q Qc XC mc ms free a s o t
theorem vx_ret {g : JFrame} {mc ms : Nat} (k : W p l e R s m args below meth c H locs cells slots (MQ below Qc args s mc ms free) g) : W p l e R s m args below meth c H locs cells slots (vx_MQ below Qc XC args s mc ms free) g := by
  intro T hT X
  obtain ⟨t, a1, o, b1, b2, b3, b4⟩ := k T hT X
  exact ⟨t, a1, o, b1, b2, Or.inl ⟨b3, b4⟩⟩
/-- not caught here: it goes on to the caller -/
theorem vx_widen {g : JFrame} {q : Addr} {k n : Nat} (h1 : cells ≤ k) (h2 : slots ≤ n) (kk : vx_W p l e R s m args below meth c H locs k n Q g q) : vx_W p l e R s m args below meth c H locs cells slots Q g q := fun T hT X => kk T hT (stand_widen X h1 h2)
theorem vx_out {pc : Nat} {E : String} {ce : Cell} {q : Addr} {mc ms : Nat} (hout : ∀ x ∈ c.exceptionTable.toList, covers x pc = false) (hlocks : meth.locks = false) (hcell : H[q]? = some ce) (hv : ce.vm = .none) (hcl : s.vm.findClass E = some ce.cls)
    (hx : ∀ t : State, t.heap = H → s.vm.Alike t.vm → XC E s t) (hf : ∀ z ∈ locs, free z.base) (hc : cells ≤ mc) (hs : slots ≤ ms) :
    vx_W p l e R s m args below meth c H locs cells slots (vx_MQ below Qc XC args s mc ms free) (F0 m pc ls rest) q := by
  intro T hT X
  obtain ⟨st1, hrun, hend, hW, hsm⟩ := X.leaveThrown q (g := F0 m pc ls rest) rfl rfl rfl hout hlocks
  have hcell9 : (T.setFrames (.throwing q :: below)).heap[q]? = some ce := by
    show T.heap[q]? = some ce
    rw [hT]; exact hcell
  exact ⟨_, st1, .threw q, hrun, hend, Or.inr ⟨q, rfl, E, ce, locs, hx _ hT hW.alike, hcell9, hv, hcl, hW, hsm.mono hc hs, hf⟩⟩
theorem vx_frame {U : State} {k n : Nat} (h : s.sameButNew ({ U with vm := s.vm } : State) locs k n) : s.heap.size ≤ U.heap.size ∧ ∀ q : Nat, q < s.heap.size → (∀ z ∈ locs, z.base ≠ q) → U.heap[q]? = s.heap[q]? := by
  obtain ⟨-, h2, -, -, -, h6⟩ := h
  refine ⟨h2, fun q hq hz => ?_⟩
  obtain ⟨c9, e1, e2, e3, e4⟩ := h6 q _ (Array.getElem?_eq_getElem hq)
  have hs : c9.slots = (s.heap[q]).slots := Array.ext_getElem? fun i => e4 i fun hm => hz _ hm rfl
  have h9 : c9 = s.heap[q] := by
    rw [hs] at e2
    exact e2
  have e5 : U.heap[q]? = some c9 := e1
  rw [e5, h9, Array.getElem?_eq_getElem hq]
/-- the words of a throw but the four that speak of the heap -/
def vx_no (w : Cond) : Bool := decide (w ≠ .isRef (.static Bundle.tN "UNASSIGNED_STACK" Bundle.steD)) && decide (w ≠ .isRef (.static Bundle.tN "SUPPRESSED_SENTINEL" Bundle.listD)) && decide (w ≠ .laysStatic Bundle.tN "UNASSIGNED_STACK" Bundle.steD) && decide (w ≠ .laysStatic Bundle.tN "SUPPRESSED_SENTINEL" Bundle.listD)
def vx_at0 (own : String) (ic : Nat) (X : String) (names : List String) : List Cond := (Bundle.ownAtoms0 own ic X names).filter vx_no
def vx_atS (own : String) (ic : Nat) (X : String) (names : List String) : List Cond := (Bundle.ownAtoms own ic X names).filter vx_no
/-- a word that the tables alone decide, or a good one -/
def vx_ot (w : Cond) : Bool := w.onTables || goodWord w
theorem vx_ot_at {args a' : Array Value} {s U : State} {w : Cond} (hW : s.WarmedH U.vm) (hvm : s.vm = U.vm) (hg : vx_ot w = true) (h : w.before args s = true) : w.before a' U = true := by
  simp only [vx_ot, Bool.or_eq_true] at hg
  rcases hg with hg | hg
  · exact va_tabs hg hvm h
  · exact word_at hW (good_of_word hg) h
/-- a list's words: the good ones out of the method's own list, the others by premises of their own -/
theorem vx_hat {args : Array Value} {s : State} {L B : List Cond} (h1 : ∀ w ∈ L.filter goodWord, w.before args s = true) (h2 : ∀ w ∈ L.filter (fun w => !goodWord w), w ∈ B) (h3 : ∀ w ∈ B, w.before args s = true) : ∀ w ∈ L, w.before args s = true := by
  intro w hw
  by_cases g : goodWord w = true
  · exact h1 w (List.mem_filter.mpr ⟨hw, g⟩)
  · refine h3 w (h2 w (List.mem_filter.mpr ⟨hw, ?_⟩))
    show (!goodWord w) = true
    cases hgw : goodWord w
    · rfl
    · exact absurd hgw g
theorem vx_c {args : Array Value} {s : State} {w : Cond} {B : List Cond} (h : w.before args s = true) (t : ∀ w ∈ B, w.before args s = true) : ∀ w' ∈ w :: B, w'.before args s = true := fun w' h' => (List.mem_cons.mp h').elim (fun e => by rw [e]; exact h) (t w')
theorem vx_n {args : Array Value} {s : State} : ∀ w ∈ ([] : List Cond), w.before args s = true := fun _ h => nomatch h
theorem vx_own {args : Array Value} {s : State} {L : List Cond} (h1 : ∀ w ∈ L.filter vx_no, w.before args s = true)
    (hU : (Cond.isRef (.static Bundle.tN "UNASSIGNED_STACK" Bundle.steD)).before args s = true) (hN : (Cond.isRef (.static Bundle.tN "SUPPRESSED_SENTINEL" Bundle.listD)).before args s = true)
    (lU : (Cond.laysStatic Bundle.tN "UNASSIGNED_STACK" Bundle.steD).before args s = true) (lN : (Cond.laysStatic Bundle.tN "SUPPRESSED_SENTINEL" Bundle.listD).before args s = true) : ∀ w ∈ L, w.before args s = true := by
  intro w hw
  by_cases e1 : w = .isRef (.static Bundle.tN "UNASSIGNED_STACK" Bundle.steD)
  · rw [e1]; exact hU
  · by_cases e2 : w = .isRef (.static Bundle.tN "SUPPRESSED_SENTINEL" Bundle.listD)
    · rw [e2]; exact hN
    · by_cases e3 : w = .laysStatic Bundle.tN "UNASSIGNED_STACK" Bundle.steD
      · rw [e3]; exact lU
      · by_cases e4 : w = .laysStatic Bundle.tN "SUPPRESSED_SENTINEL" Bundle.listD
        · rw [e4]; exact lN
        · exact h1 w (List.mem_filter.mpr ⟨hw, by unfold vx_no; rw [decide_eq_true e1, decide_eq_true e2, decide_eq_true e3, decide_eq_true e4]; rfl⟩)
/-- where a static field lies, its class's statics cell in H -/
def vx_L (C n d : String) (A : Nat → Prop) (U : State) (H : Heap) : Prop := ∃ (c : ClassId) (k : Class) (i : Nat) (f : Field) (a : Nat) (cell : Cell), U.vm.findClass C = some c ∧ U.fieldFound? C n d = some (c, k, i, f) ∧ f.isStatic = true ∧ k.statics = some a ∧ H[a]? = some cell ∧ cell.vm.isStatics = true ∧ cell.cls = c ∧ f.slot < cell.slots.size ∧ k.staticTypes[f.slot]? = some f.type ∧ ¬ A a
theorem vx_L.moved {C n d : String} {A : Nat → Prop} {u U : State} {H : Heap} (hvm : u.vm.Alike U.vm) (h : vx_L C n d A u H) : vx_L C n d A U H := by
  obtain ⟨c, k, i, f, a, cell, h1, h2, h3, h4, h5, h6, h7, h8, h9, h10⟩ := h
  obtain ⟨k', hi', he⟩ := State.fieldFound?_setVm hvm h2
  exact ⟨c, k', i, f, a, cell, by rw [hvm.findClass]; exact h1, hi', h3, by rw [he]; exact h4, h5, h6, h7, h8, by rw [he]; exact h9, h10⟩
theorem vx_L.kept {C n d : String} {A : Nat → Prop} {U : State} {H H1 : Heap} (h : vx_L C n d A U H) (hq : ∀ a : Nat, a < H.size → ¬ A a → H1[a]? = H[a]?) : vx_L C n d A U H1 := by
  obtain ⟨c, k, i, f, a, cell, h1, h2, h3, h4, h5, h6, h7, h8, h9, h10⟩ := h
  exact ⟨c, k, i, f, a, cell, h1, h2, h3, h4, by rw [hq a (Array.getElem?_eq_some_iff.mp h5).1 h10]; exact h5, h6, h7, h8, h9, h10⟩
theorem vx_L.narrow {C n d : String} {A B : Nat → Prop} {U : State} {H : Heap} (h : vx_L C n d A U H) (hAB : ∀ q, B q → A q) : vx_L C n d B U H := by
  obtain ⟨c, k, i, f, a, cell, h1, h2, h3, h4, h5, h6, h7, h8, h9, h10⟩ := h
  exact ⟨c, k, i, f, a, cell, h1, h2, h3, h4, h5, h6, h7, h8, h9, fun z => h10 (hAB _ z)⟩
theorem vx_L.word {C n d : String} {A : Nat → Prop} {s : State} {args : Array Value} (h : vx_L C n d A s s.heap) : (Cond.laysStatic C n d).before args s = true := by
  obtain ⟨c, k, i, f, a, cell, h1, h2, h3, h4, h5, h6, h7, h8, h9, -⟩ := h
  show (Cond.laysStatic C n d).holds args s none s [] = true
  exact Cond.laysStatic_of h1 h2 h3 h4 h5 h6 h7 h8 h9
/-- .. and what it holds: null or some reference -/
def vx_Zq (C n d : String) (A : Nat → Prop) (U : State) (H : Heap) : Prop := va_Zq C n d A U H ∧ vx_L C n d A U H
theorem vx_Zq.moved {C n d : String} {A : Nat → Prop} {u U : State} {H : Heap} (hvm : u.vm.Alike U.vm) (h : vx_Zq C n d A u H) : vx_Zq C n d A U H := ⟨va_Zq.moved hvm h.1, vx_L.moved hvm h.2⟩
theorem vx_Zq.kept {C n d : String} {A : Nat → Prop} {U : State} {H H1 : Heap} (h : vx_Zq C n d A U H) (hq : ∀ a : Nat, a < H.size → ¬ A a → H1[a]? = H[a]?) : vx_Zq C n d A U H1 := ⟨va_Zq.kept h.1 hq, vx_L.kept h.2 hq⟩
theorem vx_Zq.narrow {C n d : String} {A B : Nat → Prop} {U : State} {H : Heap} (h : vx_Zq C n d A U H) (hAB : ∀ q, B q → A q) : vx_Zq C n d B U H := ⟨va_Zq.narrow h.1 hAB, vx_L.narrow h.2 hAB⟩
theorem vx_Zqof {args : Array Value} {s : State} {C n d : String} {A : Nat → Prop} (hl : (Cond.laysStatic C n d).before args s = true) (hini : (Cond.initialized C).before args s = true) (h : (Cond.isRef (.static C n d)).before args s = true) (hA : ∀ a : Nat, a < s.heap.size → ¬ A a) : vx_Zq C n d A s s.heap := by
  refine ⟨va_Zqof hl hini h hA, ?_⟩
  obtain ⟨c, k, i, f, a, cell, h1, h2, h3, h4, h5, h6, h7, h8, h9⟩ := Cond.laysStatic_spec hl
  exact ⟨c, k, i, f, a, cell, h1, h2, h3, h4, h5, h6, h7, h8, h9, hA a (Array.getElem?_eq_some_iff.mp h5).1⟩
theorem vx_isRef {C n d : String} {v : Value} {A : Nat → Prop} {s : State} {args : Array Value} (h : va_Z C n d v A s s.heap) (hv : v.isRef = true) : (Cond.isRef (.static C n d)).before args s = true := by
  obtain ⟨cf, kf, fi, f, a, cell, h1, h2, h3, h4, h5, h6, h7, -⟩ := h
  have he : (Term.static C n d).eval args s none [] s = some v := by
    simp [Term.eval, State.fieldNamed?, h1, h2, h4, h5, h6, h7]
  simp only [Cond.before, Cond.holds, Cond.value, he]
  cases v <;> simp_all [Value.isRef]
theorem vx_isRefq {C n d : String} {A : Nat → Prop} {s : State} {args : Array Value} (h : va_Zq C n d A s s.heap) : (Cond.isRef (.static C n d)).before args s = true := by
  rcases h with h | ⟨t, h⟩
  · exact vx_isRef h rfl
  · exact vx_isRef h rfl
/-- the same frame, seen from here: as if the method were called anew in this heap -/
theorem vx_rebase {T : State} (X : Stand p l e R s m args below meth c T locs cells slots) {R' : Room} (hf : R'.frames ≤ R.frames) (hl : R'.locals ≤ R.locals) (hc : cells + R'.cells ≤ R.cells) (hs : slots + R'.slots ≤ R.slots) :
    Stand p l e R' ((T.setVm s.vm).setFrames (.invoking m args :: below)) m args below meth c T [] 0 0 := by
  have htop : (T.setVm s.vm).topJava?.isSome := X.here.top
  have hF : ((T.setVm s.vm).setFrames (.invoking m args :: below)).frames = .invoking m args :: below := State.frames_setFrames _ (State.cur_lt_of_top htop)
  obtain ⟨g₀, hg0⟩ := Option.isSome_iff_exists.mp htop
  obtain ⟨r, hr⟩ := State.topJava?_eq_some.mp hg0
  have hl9 : e.platform.stackLimits (T.setVm s.vm).me = e.platform.stackLimits s.me := X.limits
  have hb9 : (T.setVm s.vm).me.stackBytes = s.me.stackBytes := X.bytes
  refine ⟨X.admits, X.cas, X.clock, hF, ?_, X.hears, X.method, X.code, X.here, X.tail, X.warmed, ?_, ?_, ?_⟩
  · have h := X.room
    have hU : ((T.setVm s.vm).setFrames (.invoking m args :: below)).localsInUse = s.localsInUse := by
      rw [State.localsInUse_invoking hF (meth := meth) (c := c) X.method X.code, State.localsInUse_invoking X.frames X.method X.code]
    simp only [State.hasRoom, Bool.and_eq_true, decide_eq_true_eq] at h ⊢
    obtain ⟨⟨⟨⟨h1, h2, h3, h4, h5, h6⟩, h7⟩, h8⟩, h9⟩ := h
    rw [X.frames, List.length_cons] at h2 h3
    have q1 := X.heapSize
    have q2 := X.used
    simp only [hF, hU, List.length_cons, State.stackLimits_setFrames, State.stackBytes_setFrames, hl9, hb9]
    refine ⟨⟨⟨⟨by omega, by omega, by omega, by omega, by omega, h6⟩, ?_⟩, ?_⟩, X.book⟩
    · show T.heap.size + R'.cells ≤ e.platform.maxCells
      omega
    · show T.slotsUsed + R'.slots ≤ e.platform.maxSlots
      omega
  · rw [State.stackLimits_setFrames]; rfl
  · rw [State.stackBytes_setFrames]; rfl
  · refine ⟨?_, Nat.le_refl _, Nat.le_refl _, ?_, ?_, fun a c9 h9 => ⟨c9, h9, rfl, rfl, fun _ _ => rfl⟩⟩
    · obtain ⟨t, ht, -⟩ := State.frames_cons hr
      show T.setVm s.vm = { ((T.setVm s.vm).setFrames (.invoking m args :: below)).setFrames (T.setVm s.vm).frames with heap := T.heap, slotsUsed := T.slotsUsed }
      rw [State.setFrames_setFrames, State.setFrames_self ht]
      rfl
    · show T.slotsUsed = T.slotsUsed + ((T.heap.toList.drop T.heap.size).map (·.slots.size)).sum
      rw [List.drop_eq_nil_of_le (Nat.le_of_eq Array.length_toList)]
      rfl
    · show ((T.heap.toList.drop T.heap.size).map (·.slots.size)).sum ≤ 0
      rw [List.drop_eq_nil_of_le (Nat.le_of_eq Array.length_toList)]
      exact Nat.le_refl _
/-- 'throw new E()': new; dup; invokespecial; athrow -/
theorem vx_throw0 {cc : ByteArray} {pc : Nat} (hexec : p.tables.exec = Jvm.exec) (hb : c.code = cc) (hl : l.stackTraces = false) {own cls : String} {names : List String} {ik ic mc ms : Nat} {A : Nat → Prop}
    (hown : s.vm.findClass own = some m.cls) (hcls : Bundle.fit cls = true) (hnames : ∀ n ∈ names, Bundle.fit n = true)
    (hk : (Cond.classLink own ik cls).before args s = true) (hini : (Cond.initialized cls).before args s = true) (hat : ∀ w ∈ vx_at0 own ic cls names, w.before args s = true)
    (hgood : ∀ w ∈ Cond.classLink own ik cls :: Cond.initialized cls :: vx_at0 own ic cls names, vx_ot w = true)
    (hU : vx_Zq Bundle.tN "UNASSIGNED_STACK" Bundle.steD A s s.heap) (hN : vx_Zq Bundle.tN "SUPPRESSED_SENTINEL" Bundle.listD A s s.heap) (hS : va_S A s.heap H locs) (hsize : ls.size = c.maxLocals)
    (d0 : decode cc pc = .ok (.new ik, 3)) (d3 : decode cc (pc + 3) = .ok (.dup, 1)) (d4 : decode cc (pc + 4) = .ok (.invokespecial ic, 3)) (d7 : decode cc (pc + 7) = .ok (.athrow, 1))
    (hout : ∀ x ∈ c.exceptionTable.toList, covers x (pc + 7) = false)
    (hRframes : names.length + 3 < R.frames) (hRlocals : (rest.map fun v => v.category).sum + (13 * (names.length + 1) + 42) ≤ R.locals) (hRcells : cells + 1 ≤ R.cells) (hRslots : slots + 6 ≤ R.slots) (hlocks : meth.locks = false)
    (hx : ∀ t : State, s.vm.Alike t.vm → H.size ≤ t.heap.size → (∀ q : Nat, q < H.size → t.heap[q]? = H[q]?) → XC cls s t)
    (hf : ∀ z ∈ locs, free z.base) (hc : cells + 1 ≤ mc) (hs : slots + 6 ≤ ms) :
    W p l e R s m args below meth c H locs cells slots (vx_MQ below Qc XC args s mc ms free) (F0 m pc ls rest) := by
  intro T hT X
  have htr : e.platform.stackTraces = false := (show e.platform.stackTraces = l.stackTraces by rw [X.admits.platform]).trans hl
  have Y := vx_rebase X (R' := { frames := R.frames, locals := R.locals, cells := 1, slots := 6 }) (Nat.le_refl _) (Nat.le_refl _) hRcells hRslots
  obtain ⟨s', hA⟩ : ∃ z, z = (T.setVm s.vm).setFrames (.invoking m args :: below) := ⟨_, rfl⟩
  rw [← hA] at Y
  have hvm : s'.vm = s.vm := by rw [hA]; rfl
  have hhp : s'.heap = H := by rw [hA]; exact hT
  have hW0 : s.WarmedH s'.vm := by rw [hvm]; exact State.WarmedH.refl s
  have hat' : ∀ w ∈ vx_at0 own ic cls names, w.before args s' = true := fun w hw => vx_ot_at hW0 hvm.symm (hgood w (List.mem_cons_of_mem _ (List.mem_cons_of_mem _ hw))) (hat w hw)
  have hk' : (Cond.classLink own ik cls).before args s' = true := vx_ot_at hW0 hvm.symm (hgood _ List.mem_cons_self) hk
  have hini' : (Cond.initialized cls).before args s' = true := vx_ot_at hW0 hvm.symm (hgood _ (List.mem_cons_of_mem _ List.mem_cons_self)) hini
  have hU' : vx_Zq Bundle.tN "UNASSIGNED_STACK" Bundle.steD A s' s'.heap := by rw [hhp]; exact vx_Zq.moved hW0.alike (hU.kept hS.2.1)
  have hN' : vx_Zq Bundle.tN "SUPPRESSED_SENTINEL" Bundle.listD A s' s'.heap := by rw [hhp]; exact vx_Zq.moved hW0.alike (hN.kept hS.2.1)
  have h : ∀ w ∈ Bundle.ownAtoms0 own ic cls names, w.before args s' = true := vx_own hat' (vx_isRefq hU'.1) (vx_isRefq hN'.1) hU'.2.word hN'.2.word
  have hown' : s'.vm.findClass own = some m.cls := by rw [hvm]; exact hown
  have hins : (Cond.instantiable cls 6).before args s' = true := h _ (by simp [Bundle.ownAtoms0])
  obtain ⟨vm₁, cX, kX, hfX, hkX, -, -, X₁, st1⟩ := Y.newCold hexec (own := own) (C := cls) (index := ik) (n := 6) hown' hk' hins hini'
    (g := F0 m pc ls rest) rfl (by rw [hb]; exact d0) (Nat.le_refl _) (Nat.le_refl _)
  generalize hT1 : (T.setVm vm₁).pushCell { cls := cX, slots := kX.instanceTypes.map defaultValue, vm := .none } = T1 at X₁ st1
  have hcat : (Value.ref T.heap.size).category = 1 := rfl
  have hcellA : T1.heap[T.heap.size]? = some (freshCell cX kX) := by rw [← hT1]; exact State.heap_pushCell_size _ _
  have d3' : decode c.code (pc + 3) = .ok (.dup, 1) := by rw [hb]; exact d3
  obtain ⟨U, hsteps, hrun, hend, hW, hsame, ce, hce, hO⟩ := X₁.ctorThrow0 hexec htr (own := own) (cls := cls) (names := names) (ic := ic) hown' hcls hnames h (fun x hx => nomatch hx) hfX hkX hcellA (by rw [hhp, hT]; exact Nat.le_refl _)
    (g := { method := m, pc := pc + 4, locals := ls, stack := .ref T.heap.size :: .ref T.heap.size :: rest, locked := none }) rfl hsize rfl rfl (rest := rest) rfl
    (by rw [hb]; exact d4) (by rw [hb]; exact d7) hout hRframes (by simp only [List.map_cons, List.sum_cons, hcat]; omega) hlocks
  obtain ⟨f1, f2⟩ := vx_frame hsame
  rw [hhp] at f1 f2
  have hWs : s.WarmedH U.vm := State.WarmedH.trans hW0 hW
  have hcl : s.vm.findClass cls = some ce.cls := by
    have h9 := hO.cls
    rw [hvm] at h9
    exact h9
  have hall : s.sameButNew ({ U with vm := s.vm } : State) locs mc ms := by
    subst hA
    obtain ⟨e1, e2⟩ := hsame
    rw [State.setFrames_setFrames] at e1
    have h2 : (T.setVm s.vm).sameButNew ({ U with vm := s.vm } : State) [] (0 + 1) (0 + 6) := ⟨e1, e2⟩
    have h3 := X.same.trans h2
    rw [List.append_nil] at h3
    exact h3.mono hc hs
  refine ⟨U, ?_, .threw T.heap.size, hrun, hend, Or.inr ⟨T.heap.size, rfl, cls, ce, locs, hx U hWs.alike f1 (fun q hq => f2 q hq (fun z hz => nomatch hz)), hce, hO.vm, hcl, hWs, hall, hf⟩⟩
  refine st1 _ ?_
  show Steps p.tables e below (T1.setTop { method := m, pc := pc + 3, locals := ls, stack := .ref T.heap.size :: rest, locked := none }) _
  jvm_step X₁.here [X₁.here.top, hexec, d3', Value.category]
  exact hsteps
/-- 'throw new E("text")': new; dup; ldc; invokespecial; athrow -/
theorem vx_throwS {cc : ByteArray} {pc : Nat} (hexec : p.tables.exec = Jvm.exec) (hb : c.code = cc) (hl : l.stackTraces = false) {own cls text : String} {names : List String} {ik is ic mc ms sa : Nat} {A : Nat → Prop}
    (hown : s.vm.findClass own = some m.cls) (hcls : Bundle.fit cls = true) (hnames : ∀ n ∈ names, Bundle.fit n = true)
    (hk : (Cond.classLink own ik cls).before args s = true) (hini : (Cond.initialized cls).before args s = true) (hstr : vk_R own is text sa s) (hat : ∀ w ∈ vx_atS own ic cls names, w.before args s = true)
    (hgood : ∀ w ∈ Cond.classLink own ik cls :: Cond.initialized cls :: vx_atS own ic cls names, vx_ot w = true)
    (hU : vx_Zq Bundle.tN "UNASSIGNED_STACK" Bundle.steD A s s.heap) (hN : vx_Zq Bundle.tN "SUPPRESSED_SENTINEL" Bundle.listD A s s.heap) (hS : va_S A s.heap H locs) (hsize : ls.size = c.maxLocals)
    (d0 : decode cc pc = .ok (.new ik, 3)) (d3 : decode cc (pc + 3) = .ok (.dup, 1)) (d4 : decode cc (pc + 4) = .ok (.ldc is, 2)) (d6 : decode cc (pc + 6) = .ok (.invokespecial ic, 3)) (d9 : decode cc (pc + 9) = .ok (.athrow, 1))
    (hout : ∀ x ∈ c.exceptionTable.toList, covers x (pc + 9) = false)
    (hRframes : names.length + 3 < R.frames) (hRlocals : (rest.map fun v => v.category).sum + (13 * (names.length + 1) + 43) ≤ R.locals) (hRcells : cells + 1 ≤ R.cells) (hRslots : slots + 6 ≤ R.slots) (hlocks : meth.locks = false)
    (hx : ∀ t : State, s.vm.Alike t.vm → H.size ≤ t.heap.size → (∀ q : Nat, q < H.size → t.heap[q]? = H[q]?) → XC cls s t)
    (hf : ∀ z ∈ locs, free z.base) (hc : cells + 1 ≤ mc) (hs : slots + 6 ≤ ms) :
    W p l e R s m args below meth c H locs cells slots (vx_MQ below Qc XC args s mc ms free) (F0 m pc ls rest) := by
  intro T hT X
  have htr : e.platform.stackTraces = false := (show e.platform.stackTraces = l.stackTraces by rw [X.admits.platform]).trans hl
  have Y := vx_rebase X (R' := { frames := R.frames, locals := R.locals, cells := 1, slots := 6 }) (Nat.le_refl _) (Nat.le_refl _) hRcells hRslots
  obtain ⟨s', hA⟩ : ∃ z, z = (T.setVm s.vm).setFrames (.invoking m args :: below) := ⟨_, rfl⟩
  rw [← hA] at Y
  have hvm : s'.vm = s.vm := by rw [hA]; rfl
  have hhp : s'.heap = H := by rw [hA]; exact hT
  have hW0 : s.WarmedH s'.vm := by rw [hvm]; exact State.WarmedH.refl s
  have hat' : ∀ w ∈ vx_atS own ic cls names, w.before args s' = true := fun w hw => vx_ot_at hW0 hvm.symm (hgood w (List.mem_cons_of_mem _ (List.mem_cons_of_mem _ hw))) (hat w hw)
  have hk' : (Cond.classLink own ik cls).before args s' = true := vx_ot_at hW0 hvm.symm (hgood _ List.mem_cons_self) hk
  have hini' : (Cond.initialized cls).before args s' = true := vx_ot_at hW0 hvm.symm (hgood _ (List.mem_cons_of_mem _ List.mem_cons_self)) hini
  have hU' : vx_Zq Bundle.tN "UNASSIGNED_STACK" Bundle.steD A s' s'.heap := by rw [hhp]; exact vx_Zq.moved hW0.alike (hU.kept hS.2.1)
  have hN' : vx_Zq Bundle.tN "SUPPRESSED_SENTINEL" Bundle.listD A s' s'.heap := by rw [hhp]; exact vx_Zq.moved hW0.alike (hN.kept hS.2.1)
  have h : ∀ w ∈ Bundle.ownAtoms own ic cls names, w.before args s' = true := vx_own hat' (vx_isRefq hU'.1) (vx_isRefq hN'.1) hU'.2.word hN'.2.word
  have hown' : s'.vm.findClass own = some m.cls := by rw [hvm]; exact hown
  have hins : (Cond.instantiable cls 6).before args s' = true := h _ (by simp [Bundle.ownAtoms])
  obtain ⟨vm₁, cX, kX, hfX, hkX, -, -, X₁, st1⟩ := Y.newCold hexec (own := own) (C := cls) (index := ik) (n := 6) hown' hk' hins hini'
    (g := F0 m pc ls rest) rfl (by rw [hb]; exact d0) (Nat.le_refl _) (Nat.le_refl _)
  generalize hT1 : (T.setVm vm₁).pushCell { cls := cX, slots := kX.instanceTypes.map defaultValue, vm := .none } = T1 at X₁ st1
  have hcat : (Value.ref T.heap.size).category = 1 := rfl
  have hcellA : T1.heap[T.heap.size]? = some (freshCell cX kX) := by rw [← hT1]; exact State.heap_pushCell_size _ _
  have d3' : decode c.code (pc + 3) = .ok (.dup, 1) := by rw [hb]; exact d3
  have d4' : decode c.code (pc + 4) = .ok (.ldc is, 2) := by rw [hb]; exact d4
  have hstr' : vk_R own is text sa s' := vk_R.warm hW0 hstr
  obtain ⟨U, hsteps, hrun, hend, hW, hsame, ce, hce, hO⟩ := X₁.ctorThrowS hexec htr (own := own) (cls := cls) (names := names) (ic := ic) hown' hcls hnames h (fun x hx => nomatch hx) hfX hkX hcellA (by rw [hhp, hT]; exact Nat.le_refl _) (msg := .ref sa) rfl
    (g := { method := m, pc := pc + 6, locals := ls, stack := .ref sa :: .ref T.heap.size :: .ref T.heap.size :: rest, locked := none }) rfl hsize rfl rfl (rest := rest) rfl
    (by rw [hb]; exact d6) (by rw [hb]; exact d9) hout hRframes (by simp only [List.map_cons, List.sum_cons, hcat]; omega) hlocks
  obtain ⟨f1, f2⟩ := vx_frame hsame
  rw [hhp] at f1 f2
  have hWs : s.WarmedH U.vm := State.WarmedH.trans hW0 hW
  have hcl : s.vm.findClass cls = some ce.cls := by
    have h9 := hO.cls
    rw [hvm] at h9
    exact h9
  have hall : s.sameButNew ({ U with vm := s.vm } : State) locs mc ms := by
    subst hA
    obtain ⟨e1, e2⟩ := hsame
    rw [State.setFrames_setFrames] at e1
    have h2 : (T.setVm s.vm).sameButNew ({ U with vm := s.vm } : State) [] (0 + 1) (0 + 6) := ⟨e1, e2⟩
    have h3 := X.same.trans h2
    rw [List.append_nil] at h3
    exact h3.mono hc hs
  refine ⟨U, ?_, .threw T.heap.size, hrun, hend, Or.inr ⟨T.heap.size, rfl, cls, ce, locs, hx U hWs.alike f1 (fun q hq => f2 q hq (fun z hz => nomatch hz)), hce, hO.vm, hcl, hWs, hall, hf⟩⟩
  refine st1 _ ?_
  show Steps p.tables e below (T1.setTop { method := m, pc := pc + 3, locals := ls, stack := .ref T.heap.size :: rest, locked := none }) _
  jvm_step X₁.here [X₁.here.top, hexec, d3', Value.category]
  exact X₁.ldcString hexec (own := own) (text := text) (index := is) (a := sa) hown' hstr'.1 hstr'.2
    (g := { method := m, pc := pc + 4, locals := ls, stack := .ref T.heap.size :: .ref T.heap.size :: rest, locked := none }) rfl d4' _ hsteps
/-- 'throw new E("text")', the text by a wide index -/
theorem vx_throwSW {cc : ByteArray} {pc : Nat} (hexec : p.tables.exec = Jvm.exec) (hb : c.code = cc) (hl : l.stackTraces = false) {own cls text : String} {names : List String} {ik is ic mc ms sa : Nat} {A : Nat → Prop}
    (hown : s.vm.findClass own = some m.cls) (hcls : Bundle.fit cls = true) (hnames : ∀ n ∈ names, Bundle.fit n = true)
    (hk : (Cond.classLink own ik cls).before args s = true) (hini : (Cond.initialized cls).before args s = true) (hstr : vk_R own is text sa s) (hat : ∀ w ∈ vx_atS own ic cls names, w.before args s = true)
    (hgood : ∀ w ∈ Cond.classLink own ik cls :: Cond.initialized cls :: vx_atS own ic cls names, vx_ot w = true)
    (hU : vx_Zq Bundle.tN "UNASSIGNED_STACK" Bundle.steD A s s.heap) (hN : vx_Zq Bundle.tN "SUPPRESSED_SENTINEL" Bundle.listD A s s.heap) (hS : va_S A s.heap H locs) (hsize : ls.size = c.maxLocals)
    (d0 : decode cc pc = .ok (.new ik, 3)) (d3 : decode cc (pc + 3) = .ok (.dup, 1)) (d4 : decode cc (pc + 4) = .ok (.ldc_w is, 3)) (d7 : decode cc (pc + 7) = .ok (.invokespecial ic, 3)) (d10 : decode cc (pc + 10) = .ok (.athrow, 1))
    (hout : ∀ x ∈ c.exceptionTable.toList, covers x (pc + 10) = false)
    (hRframes : names.length + 3 < R.frames) (hRlocals : (rest.map fun v => v.category).sum + (13 * (names.length + 1) + 43) ≤ R.locals) (hRcells : cells + 1 ≤ R.cells) (hRslots : slots + 6 ≤ R.slots) (hlocks : meth.locks = false)
    (hx : ∀ t : State, s.vm.Alike t.vm → H.size ≤ t.heap.size → (∀ q : Nat, q < H.size → t.heap[q]? = H[q]?) → XC cls s t)
    (hf : ∀ z ∈ locs, free z.base) (hc : cells + 1 ≤ mc) (hs : slots + 6 ≤ ms) :
    W p l e R s m args below meth c H locs cells slots (vx_MQ below Qc XC args s mc ms free) (F0 m pc ls rest) := by
  intro T hT X
  have htr : e.platform.stackTraces = false := (show e.platform.stackTraces = l.stackTraces by rw [X.admits.platform]).trans hl
  have Y := vx_rebase X (R' := { frames := R.frames, locals := R.locals, cells := 1, slots := 6 }) (Nat.le_refl _) (Nat.le_refl _) hRcells hRslots
  obtain ⟨s', hA⟩ : ∃ z, z = (T.setVm s.vm).setFrames (.invoking m args :: below) := ⟨_, rfl⟩
  rw [← hA] at Y
  have hvm : s'.vm = s.vm := by rw [hA]; rfl
  have hhp : s'.heap = H := by rw [hA]; exact hT
  have hW0 : s.WarmedH s'.vm := by rw [hvm]; exact State.WarmedH.refl s
  have hat' : ∀ w ∈ vx_atS own ic cls names, w.before args s' = true := fun w hw => vx_ot_at hW0 hvm.symm (hgood w (List.mem_cons_of_mem _ (List.mem_cons_of_mem _ hw))) (hat w hw)
  have hk' : (Cond.classLink own ik cls).before args s' = true := vx_ot_at hW0 hvm.symm (hgood _ List.mem_cons_self) hk
  have hini' : (Cond.initialized cls).before args s' = true := vx_ot_at hW0 hvm.symm (hgood _ (List.mem_cons_of_mem _ List.mem_cons_self)) hini
  have hU' : vx_Zq Bundle.tN "UNASSIGNED_STACK" Bundle.steD A s' s'.heap := by rw [hhp]; exact vx_Zq.moved hW0.alike (hU.kept hS.2.1)
  have hN' : vx_Zq Bundle.tN "SUPPRESSED_SENTINEL" Bundle.listD A s' s'.heap := by rw [hhp]; exact vx_Zq.moved hW0.alike (hN.kept hS.2.1)
  have h : ∀ w ∈ Bundle.ownAtoms own ic cls names, w.before args s' = true := vx_own hat' (vx_isRefq hU'.1) (vx_isRefq hN'.1) hU'.2.word hN'.2.word
  have hown' : s'.vm.findClass own = some m.cls := by rw [hvm]; exact hown
  have hins : (Cond.instantiable cls 6).before args s' = true := h _ (by simp [Bundle.ownAtoms])
  obtain ⟨vm₁, cX, kX, hfX, hkX, -, -, X₁, st1⟩ := Y.newCold hexec (own := own) (C := cls) (index := ik) (n := 6) hown' hk' hins hini'
    (g := F0 m pc ls rest) rfl (by rw [hb]; exact d0) (Nat.le_refl _) (Nat.le_refl _)
  generalize hT1 : (T.setVm vm₁).pushCell { cls := cX, slots := kX.instanceTypes.map defaultValue, vm := .none } = T1 at X₁ st1
  have hcat : (Value.ref T.heap.size).category = 1 := rfl
  have hcellA : T1.heap[T.heap.size]? = some (freshCell cX kX) := by rw [← hT1]; exact State.heap_pushCell_size _ _
  have d3' : decode c.code (pc + 3) = .ok (.dup, 1) := by rw [hb]; exact d3
  have d4' : decode c.code (pc + 4) = .ok (.ldc_w is, 3) := by rw [hb]; exact d4
  have hstr' : vk_R own is text sa s' := vk_R.warm hW0 hstr
  obtain ⟨U, hsteps, hrun, hend, hW, hsame, ce, hce, hO⟩ := X₁.ctorThrowS hexec htr (own := own) (cls := cls) (names := names) (ic := ic) hown' hcls hnames h (fun x hx => nomatch hx) hfX hkX hcellA (by rw [hhp, hT]; exact Nat.le_refl _) (msg := .ref sa) rfl
    (g := { method := m, pc := pc + 7, locals := ls, stack := .ref sa :: .ref T.heap.size :: .ref T.heap.size :: rest, locked := none }) rfl hsize rfl rfl (rest := rest) rfl
    (by rw [hb]; exact d7) (by rw [hb]; exact d10) hout hRframes (by simp only [List.map_cons, List.sum_cons, hcat]; omega) hlocks
  obtain ⟨f1, f2⟩ := vx_frame hsame
  rw [hhp] at f1 f2
  have hWs : s.WarmedH U.vm := State.WarmedH.trans hW0 hW
  have hcl : s.vm.findClass cls = some ce.cls := by
    have h9 := hO.cls
    rw [hvm] at h9
    exact h9
  have hall : s.sameButNew ({ U with vm := s.vm } : State) locs mc ms := by
    subst hA
    obtain ⟨e1, e2⟩ := hsame
    rw [State.setFrames_setFrames] at e1
    have h2 : (T.setVm s.vm).sameButNew ({ U with vm := s.vm } : State) [] (0 + 1) (0 + 6) := ⟨e1, e2⟩
    have h3 := X.same.trans h2
    rw [List.append_nil] at h3
    exact h3.mono hc hs
  refine ⟨U, ?_, .threw T.heap.size, hrun, hend, Or.inr ⟨T.heap.size, rfl, cls, ce, locs, hx U hWs.alike f1 (fun q hq => f2 q hq (fun z hz => nomatch hz)), hce, hO.vm, hcl, hWs, hall, hf⟩⟩
  refine st1 _ ?_
  show Steps p.tables e below (T1.setTop { method := m, pc := pc + 3, locals := ls, stack := .ref T.heap.size :: rest, locked := none }) _
  jvm_step X₁.here [X₁.here.top, hexec, d3', Value.category]
  exact X₁.ldcStringW hexec (own := own) (text := text) (index := is) (a := sa) hown' hstr'.1 hstr'.2
    (g := { method := m, pc := pc + 4, locals := ls, stack := .ref T.heap.size :: .ref T.heap.size :: rest, locked := none }) rfl d4' _ hsteps
end Ends
section Bodies
variable {l : Launch}
theorem vx_ofW {y : MethodName} {ws ws' : List Cond} {rm : Room} {Pc : Array Value → State → Prop} {Qc : Array Value → State → Outcome → State → Prop} {XC : String → State → State → Prop} {mc ms : Nat} {free : Addr → Prop} {cc : ByteArray} {maxL : Nat} {ret : Option FieldType}
    (hy : plainName y.cls = true) (hw : ws = Cond.code y cc maxL ret :: ws')
    (body : ∀ p e s m args below meth c s₁, BodyLoose p l y (headSpec ws rm) cc maxL ret e s m args below meth c s₁ → c.maxLocals = maxL → (∀ x ∈ c.exceptionTable.toList, False) → Pc args s →
      W p l e (headSpec ws rm).room s m args below meth c s.heap [] 0 0 (vx_MQ below Qc XC args s mc ms free) (entryFrame m args maxL)) : vx_Met l y ws rm Pc Qc XC mc ms free := by
  refine MetFree.of_bodyS (code := cc) (maxLocals := maxL) (ret := ret) hy ?_ ?_
  · intro args s m h hn
    obtain ⟨meth, c, h1, h2, h3, h4, h5, h6, -, -⟩ := Cond.code_spec hn (atoms_spec (ws := ws) h _ (by rw [hw]; exact List.mem_cons_self))
    exact ⟨meth, c, h1, h2, h3, h4, h5, h6⟩
  · intro p e s m args below meth c s₁ B hml hP _
    have hh0 : s₁.heap = s.heap := by rw [B.state]; rfl
    have ht : ∀ x ∈ c.exceptionTable.toList, False := by
      obtain ⟨meth9, c9, h1, h2, -, -, -, -, h7, -⟩ := Cond.code_spec B.named (atoms_spec (ws := ws) B.pre _ (by rw [hw]; exact List.mem_cons_self))
      cases Option.some.inj (h1.symm.trans B.method)
      cases Option.some.inj (h2.symm.trans (Stand.of_body B).code)
      intro x hx
      rw [Array.isEmpty_iff.mp h7] at hx
      cases hx
    obtain ⟨t, a1, o, b1, b2, b3⟩ := body p e s m args below meth c s₁ B hml ht hP s₁ hh0 (Stand.of_body B)
    exact ⟨t, o, a1, b1, b2, b3⟩
/-- the table of a body with handlers -/
theorem vx_table {p : Program} {x y : MethodName} {S : Spec} {cc bytes : ByteArray} {maxL maxL' : Nat} {ret ret' : Option FieldType} {e : Env} {s s₁ : State} {m : MethodId} {args : Array Value} {below : List Frame} {meth : Method} {c : Code} {hh : List (Nat × Nat × Nat × Nat)}
    (B : BodyLoose p l y S cc maxL ret e s m args below meth c s₁) (h : (Cond.codeWith y bytes maxL' ret' hh).before args s = true) : c.exceptionTable.toList = tableOf hh := by
  obtain ⟨m9, meth9, c9, hn9, h1, h2, -, -, h6, -⟩ := Cond.codeWith_spec h
  cases Option.some.inj (hn9.symm.trans B.named)
  cases Option.some.inj (h1.symm.trans B.method)
  cases Option.some.inj (h2.symm.trans (Stand.of_body B).code)
  rw [← h6, table_eq]
end Bodies
end VXA
/-! ===== END ===== -/
/-! ===== BEGIN a static call of a method with an exception table ===== -/
section VXS
variable {p : Program} {l : Launch} {e : Env} {R : Room} {s : State} {m : MethodId} {args : Array Value} {below : List Frame} {meth : Method} {c : Code} {T : State} {H : Heap} {locs : List Loc} {cells slots : Nat}
abbrev vx_CSW (R : Room) (s : State) (args : Array Value) (own : String) (index : Nat) (y : MethodName) (bytes : ByteArray) (maxL : Nat) (ret : Option FieldType) (hh : List (Nat × Nat × Nat × Nat)) (ws : List Cond) (rm : Room) (mc ms n : Nat) : Prop :=
  (rm.cells = mc ∧ rm.slots = ms ∧ rm.frames + 1 ≤ R.frames ∧ 8 + (maxL + 11) + rm.locals ≤ R.locals ∧ (∀ w ∈ ws, ∀ (a' : Array Value) (U : State), s.WarmedH U.vm → w.before a' U = true) ∧ Cond.codeWith y bytes maxL ret hh ∈ ws) ∧
  (Cond.codeWith y bytes maxL ret hh).before args s = true ∧ (Cond.initialized y.cls).before args s = true ∧ (y.cls ≠ "java/lang/invoke/MethodHandle" ∧ y.cls ≠ "java/lang/invoke/VarHandle") ∧
  (∀ sig, parseMethodDescriptor y.desc = some sig → n = sig.parameters.length) ∧ (Cond.methodLink own index y).before args s = true ∧ (Cond.static y).before args s = true
theorem vx_cwSW {own : String} {index maxL mc ms : Nat} {y : MethodName} {bytes : ByteArray} {ret : Option FieldType} {hh : List (Nat × Nat × Nat × Nat)} {Ts ws ws' : List Cond} {rm : Room} (n : Nat) (ht : ∀ w ∈ Ts, w.before args s = true) (hT : GoodIn Ts (va_wsS own index y ws)) (hw : ws = Cond.codeWith y bytes maxL ret hh :: ws') (hrc : rm.cells = mc) (hrs : rm.slots = ms)
    (hd : y.cls ≠ "java/lang/invoke/MethodHandle" ∧ y.cls ≠ "java/lang/invoke/VarHandle" ∧ (parseMethodDescriptor y.desc).map (fun d => d.parameters.length) = some n) (hR : rm.frames + 1 ≤ R.frames ∧ 8 + (maxL + 11) + rm.locals ≤ R.locals) :
    vx_CSW R s args own index y bytes maxL ret hh ws rm mc ms n := by
  have ok : ∀ w ∈ va_wsS own index y ws, w.before args s = true := fun w h => ht w (hT w h).1
  have hG : GoodIn Ts ws := fun w h => hT w (by unfold va_wsS; exact List.mem_append_right _ h)
  have hc : Cond.codeWith y bytes maxL ret hh ∈ ws := by rw [hw]; exact List.mem_cons_self
  refine ⟨⟨hrc, hrs, hR.1, hR.2, pay_in ht hG, hc⟩, ht _ (hG _ hc).1, ok _ (by simp [va_wsS]), ⟨hd.1, hd.2.1⟩, fun sig h => ?_, ok _ (by simp [va_wsS]), ok _ (by simp [va_wsS])⟩
  have h2 := hd.2.2
  rw [h] at h2
  exact (Option.some.inj h2).symm
theorem vx_callSW (X : Stand p l e R s m args below meth c T locs cells slots) (hexec : p.tables.exec = Jvm.exec) {own : String} {index : Nat} {y : MethodName} {bytes : ByteArray} {maxL : Nat} {ret : Option FieldType} {hh : List (Nat × Nat × Nat × Nat)}
    (hown : s.vm.findClass own = some m.cls) (hlink : (Cond.methodLink own index y).before args s = true) (hstat : (Cond.static y).before args s = true) (hinit : (Cond.initialized y.cls).before args s = true)
    (hcode : (Cond.codeWith y bytes maxL ret hh).before args s = true) (hy : y.cls ≠ "java/lang/invoke/MethodHandle" ∧ y.cls ≠ "java/lang/invoke/VarHandle")
    {W9 : Nat} {Pre : Pt → Array Value → Prop} {Post : Pt → Array Value → Option Value → Pt → Prop} (hK : Back l R p e below s args y 3 W9 Pre Post)
    {g : JFrame} (hg : g.method = m) (hsize : g.locals.size = c.maxLocals) {argsL rest : List Value} (hlen : ∀ sig, parseMethodDescriptor y.desc = some sig → argsL.length = sig.parameters.length)
    (hstack : g.stack = argsL.reverse ++ rest) (hW : 2 * g.monitorRoom + (rest.map fun v => v.category).sum ≤ W9) (hdg : decode c.code g.pc = .ok (.invokestatic index, 3))
    (hpre : ∀ vm₁, s.WarmedH vm₁ → Pre ⟨T.setVm vm₁, locs, cells, slots⟩ argsL.toArray) :
    ∃ (v : Option Value) (vm₁ : Vm) (B : Pt), s.WarmedH vm₁ ∧ Stand p l e R s m args below meth c B.U B.locs B.cells B.slots ∧ Post ⟨T.setVm vm₁, locs, cells, slots⟩ argsL.toArray v B ∧
      ∀ target, Steps p.tables e below (B.U.setTop { g with pc := g.pc + 3, stack := v.toList ++ rest }) target → Steps p.tables e below (T.setTop g) target := by
  obtain ⟨mk, methM, cM, hnamed, hmethM, -, -, -, -, -, -, hsigM⟩ := Cond.codeWith_spec hcode
  have hstatic : methM.isStatic = true := Cond.static_spec hnamed hmethM hstat
  obtain ⟨kP, hkP, -⟩ := className_of_methodNamed hnamed
  have hinitP : kP.init = .initialized := Cond.initialized_spec (findClass_of_methodNamed hnamed) hkP hinit
  obtain ⟨vm₁, X₁, hstep₁⟩ := X.invokestatic hexec hown hlink hnamed hmethM hstatic hkP hinitP hy (g := g) hg (argsL := argsL) (rest := rest) (hlen _ hsigM) hstack hdg
  obtain ⟨v, B, X', hpost, hsteps⟩ := hK m meth c ⟨T.setVm vm₁, locs, cells, slots⟩ { g with stack := rest } (.invokestatic index) mk argsL.toArray X₁ hg hsize hdg hW (X₁.named hnamed) (hpre vm₁ X₁.warmed)
  exact ⟨v, vm₁, B, X₁.warmed, X', hpost, fun target h => hstep₁ _ fun acts => by rw [doInvoke_state]; exact hsteps.trans h⟩
theorem vx_runSW {y : MethodName} {bytes cc : ByteArray} {maxL nL mc ms n index : Nat} {ret : Option FieldType} {hh : List (Nat × Nat × Nat × Nat)} {ws : List Cond} {rm : Room} {Pc : Array Value → State → Prop} {Qc : Array Value → State → Outcome → State → Prop} {free : Addr → Prop} {Ts : List Cond} {own : String} {As rest : List Value} {g : JFrame}
    (S : CallFix p m c cc nL s args Ts own) (hM : Met l y ws rm Pc Qc mc ms free) (cw : vx_CSW R s args own index y bytes maxL ret hh ws rm mc ms n) (hp : PreS s H Pc As)
    (hg : g.method = m) (hn : As.length = n) (hsize : g.locals.size = nL) (hstack : g.stack = As.reverse ++ rest) (hW : 2 * g.monitorRoom + (rest.map fun v => v.category).sum ≤ 8) (hdg : decode cc g.pc = .ok (.invokestatic index, 3)) (hf : cells + mc ≤ R.cells ∧ slots + ms ≤ R.slots) :
    va_Run p l e R s m args below meth c H locs cells slots mc ms g rest (Qc As.toArray) (free) := by
  obtain ⟨⟨hrc, hrs, hfr, hlo, hws, hcw⟩, hcode, hini, hy, hlen, hl, hstt⟩ := cw
  have hK : Back l R p e below s args y 3 8 (PreOf R mc ms Pc) (PostOf Qc mc ms free) := va_backW (hh := hh) (bytes := bytes) (maxL := maxL) (ret := ret) hM hp.1 hrc hrs hfr hlo hws hcw (fun a' U hW => word_at hW (Or.inl (by first | rfl | simp [Cond.onTables, Cond.keeps, Cond.steady])) hini)
  obtain ⟨hx, hb, hml, ho, -⟩ := S
  intro T hT X
  obtain ⟨v, vm₁, ⟨U', l2, c2, s2⟩, hW₁, X', ⟨g', mk, t, L, e1, e2, hq, h1, hL, h2, h3⟩, st⟩ := vx_callSW X hx (hh := hh) (bytes := bytes) (maxL := maxL) (ret := ret) ho hl hstt hini hcode hy hK hg (hsize.trans hml.symm) (argsL := As) (rest := rest) (fun sig h => hn.trans (hlen sig h)) hstack hW (by rw [hb]; exact hdg)
    (fun vm₁ hW₁ => ⟨hf.1, hf.2, hp.2 (T.setVm vm₁) hT hW₁⟩)
  dsimp only [Pt.U, Pt.locs, Pt.cells, Pt.slots] at X' e1 e2 h1 h2 h3 st
  subst h1; subst h2; subst h3
  exact ⟨v, (T.setVm vm₁).calling g' mk As.toArray, t, U', L, hT, X', hL, e1, e2, hq, st⟩
/-- a thing of a world lies in the heap -/
theorem vx_lt {D : va_G} {cl : List vw_C} {ws : va_W} {H1 : Heap} (h : va_P D cl ws H1) {k : Nat} {q : Nat × va_E} (hk : ws[k]? = some q) : q.1 < H1.size := (h k q hk).lt
end VXS
/-! ===== END ===== -/
/-! ===== BEGIN methods with a table of their own: called by a name, returning or throwing ===== -/
section VXH
/-! vx_backW, vx_callVX, vx_callSX, vx_callVW, vx_runVW, vx_runVX, vx_runSX, vx_ofWH follow the same proofs as their sisters above (Free/Laws.lean, Shelf42/LK1.lean); vx_outP calls Shelf42/NT130.lean (outThrough). -/
section
variable {l : Launch} {R : Room} {p : Program} {e : Env} {below : List Frame} {s : State} {sargs : Array Value} {y : MethodName} {len W9 : Nat}
theorem vx_backW {ws : List Cond} {rm : Room} {Pc : Array Value → State → Prop} {Qc : Array Value → State → Outcome → State → Prop} {XC : String → State → State → Prop} {mc ms : Nat} {free : Addr → Prop} {bytes : ByteArray} {maxL : Nat} {ret : Option FieldType} {hh : List (Nat × Nat × Nat × Nat)}
    (hM : vx_Met l y ws rm Pc Qc XC mc ms free) (hblind : FrameBlind Pc) (hrc : rm.cells = mc) (hrs : rm.slots = ms)
    (hframes : rm.frames + 1 ≤ R.frames) (hlocals : W9 + (maxL + 11) + rm.locals ≤ R.locals)
    (hws : ∀ w ∈ ws, ∀ a' U, s.WarmedH U.vm → w.before a' U = true) (hcode : Cond.codeWith y bytes maxL ret hh ∈ ws) (hinit : ∀ a' U, s.WarmedH U.vm → (Cond.initialized y.cls).before a' U = true) :
    vx_Back l R p e below s sargs y len W9 (PreOf R mc ms Pc) (PostOf Qc mc ms free) (vx_Post XC mc ms free) := by
  intro m meth c A g ig mk a X hg hsize hdg hW hn hp
  have h1 : (headSpec ws rm).pre.before a A.U = true := atoms_intro fun w hw => hws w hw _ _ X.warmed
  have h2 : (Cond.codeWith y bytes maxL ret hh).before a A.U = true := hws _ hcode _ _ X.warmed
  have h3 : (Cond.initialized y.cls).before a A.U = true := hinit _ _ X.warmed
  have h4 : A.cells + (headSpec ws rm).room.cells ≤ R.cells := by rw [show (headSpec ws rm).room.cells = mc from hrc]; exact hp.1
  have h5 : A.slots + (headSpec ws rm).room.slots ≤ R.slots := by rw [show (headSpec ws rm).room.slots = ms from hrs]; exact hp.2.1
  have hPc : Pc a (A.U.calling g mk a) := hblind _ _ _ _ hp.2.2
  obtain ⟨U, Ls, c0, s0⟩ := A
  dsimp only [Pt.U, Pt.locs, Pt.cells, Pt.slots] at h1 h2 h3 h4 h5 X hn hPc ⊢
  obtain ⟨m9, methY, cY, hn9, hmY, hcY, -, hlY, -⟩ := Cond.codeWith_spec h2
  cases Option.some.inj (hn9.symm.trans hn)
  obtain ⟨kY, hkY, -⟩ := className_of_methodNamed hn
  have hinitY : kY.init = .initialized := Cond.initialized_spec (findClass_of_methodNamed hn) hkY h3
  have h : At U g.method c below := by rw [hg]; exact X.here
  have hlocals9 : W9 + (maxL + 11) + (headSpec ws rm).room.locals ≤ R.locals := hlocals
  have happ : (headSpec ws rm).appliesLoose y e.platform (U.calling g mk a) = true :=
    Spec.appliesLoose_calling (g := g) h hdg hn hkY hinitY
      (X.room_calling (g := g) (R' := (headSpec ws rm).room) hsize hmY hcY hframes (by rw [hlY]; omega) h4 h5) h1
  obtain ⟨mid, hmid⟩ := h.above
  have hfr : (U.setTop g).frames = (.java g :: mid) ++ below := by rw [State.frames_setTop' g h.top, hmid]; rfl
  obtain ⟨o, s₂, hsteps, -, hend, hq⟩ := Steps.callFree hM p X.admits X.cas X.clock (acts := []) hfr happ hPc trivial
  have hq' : vx_Q Qc XC mc ms free a (U.calling g mk a) o s₂ := hq
  rw [State.frames_setTop' g h.top] at hend
  obtain ⟨g₀, hg0⟩ := Option.isSome_iff_exists.mp h.top
  obtain ⟨r, hr⟩ := State.topJava?_eq_some.mp hg0
  have hr' : (({ U with heap := s₂.heap, slotsUsed := s₂.slotsUsed } : State).setVm s₂.vm).frames = .java g₀ :: r := hr
  rcases hq' with ⟨hqc, L, hfe, hL⟩ | ⟨q, rfl, E, ce, L, hx, hce, hcv, hcl, hW₂, hsm, hL⟩
  · obtain ⟨⟨v, rfl⟩, hW₂, e2, q2, q3, q4, q5, q6⟩ := id hfe
    have e3 : s₂ = ({ (U.calling g mk a).setFrames s₂.frames with heap := s₂.heap, slotsUsed := s₂.slotsUsed } : State).setVm s₂.vm := by
      have : s₂ = ({ s₂ with vm := (U.calling g mk a).vm } : State).setVm s₂.vm := rfl
      rw [e2] at this
      exact this
    obtain ⟨c₂, i₂, len₂, hc₂, hd₂, hf₂⟩ := hend
    have hW' : U.WarmedH s₂.vm := hW₂
    have hcc : c₂ = c := by
      have h1 : s₂.code? g.method = U.code? g.method := by
        rw [State.code?_eq, State.code?_eq, hW'.alike.method?]
      exact Option.some.inj (hc₂.symm.trans (h1.trans h.code))
    subst hcc
    have hlen : len₂ = len := by rw [hdg] at hd₂; cases hd₂; rfl
    subst hlen
    have hs₂ : s₂ = (({ U with heap := s₂.heap, slotsUsed := s₂.slotsUsed } : State).setVm s₂.vm).setTop { g with pc := g.pc + len₂, stack := v.toList ++ g.stack } := by
      refine e3.trans ?_
      rw [hf₂, State.calling_eq h.top, State.setFrames_setFrames, State.setTop_of_frames _ hr', hr]
      rfl
    have hsame : U.sameButNew ({ U with heap := s₂.heap, slotsUsed := s₂.slotsUsed } : State) L mc ms := by
      refine ⟨?_, q2, q3, q4, q5, q6⟩
      obtain ⟨t, ht, -⟩ := State.frames_cons hr
      show ({ U with heap := s₂.heap, slotsUsed := s₂.slotsUsed } : State) = { U.setFrames U.frames with heap := s₂.heap, slotsUsed := s₂.slotsUsed }
      rw [State.setFrames_self ht]
    subst hg
    refine Or.inl ⟨v, ⟨(({ U with heap := s₂.heap, slotsUsed := s₂.slotsUsed } : State).setVm s₂.vm), Ls ++ L, c0 + mc, s0 + ms⟩,
      ⟨X.admits, X.cas, X.clock, X.frames, X.room, X.hears, X.method, X.code, (X.here.setHeapUsed s₂.heap s₂.slotsUsed).setVm hW'.alike, X.tail, State.WarmedH.trans X.warmed hW', X.limits, X.bytes, X.same.trans (hsame.setVm s.vm)⟩,
      ⟨g, mk, s₂, L, rfl, rfl, hqc, rfl, hL, rfl, rfl⟩, ?_⟩
    show Steps p.tables e below _ ((({ U with heap := s₂.heap, slotsUsed := s₂.slotsUsed } : State).setVm s₂.vm).setTop { g with pc := g.pc + len₂, stack := v.toList ++ g.stack })
    rw [← hs₂]
    exact hsteps
  · obtain ⟨e2, q2, q3, q4, q5, q6⟩ := id hsm
    have e3 : s₂ = ({ (U.calling g mk a).setFrames s₂.frames with heap := s₂.heap, slotsUsed := s₂.slotsUsed } : State).setVm s₂.vm := by
      have : s₂ = ({ s₂ with vm := (U.calling g mk a).vm } : State).setVm s₂.vm := rfl
      rw [e2] at this
      exact this
    have hf₂ : s₂.frames = .throwing q :: .java g :: U.frames.tail := hend
    have hW' : U.WarmedH s₂.vm := hW₂
    have hs₂ : s₂ = ((({ U with heap := s₂.heap, slotsUsed := s₂.slotsUsed } : State).setVm s₂.vm).setTop g).pushFrame (.throwing q) := by
      refine e3.trans ?_
      rw [hf₂, State.calling_eq h.top, State.setFrames_setFrames, State.pushFrame, State.frames_setTop _ hr', State.setTop_of_frames _ hr', State.setFrames_setFrames, hr]
      rfl
    have hsame : U.sameButNew ({ U with heap := s₂.heap, slotsUsed := s₂.slotsUsed } : State) L mc ms := by
      refine ⟨?_, q2, q3, q4, q5, q6⟩
      obtain ⟨t, ht, -⟩ := State.frames_cons hr
      show ({ U with heap := s₂.heap, slotsUsed := s₂.slotsUsed } : State) = { U.setFrames U.frames with heap := s₂.heap, slotsUsed := s₂.slotsUsed }
      rw [State.setFrames_self ht]
    subst hg
    refine Or.inr ⟨q, ⟨(({ U with heap := s₂.heap, slotsUsed := s₂.slotsUsed } : State).setVm s₂.vm), Ls ++ L, c0 + mc, s0 + ms⟩,
      ⟨X.admits, X.cas, X.clock, X.frames, X.room, X.hears, X.method, X.code, (X.here.setHeapUsed s₂.heap s₂.slotsUsed).setVm hW'.alike, X.tail, State.WarmedH.trans X.warmed hW', X.limits, X.bytes, X.same.trans (hsame.setVm s.vm)⟩,
      ⟨g, mk, s₂, L, E, ce, rfl, rfl, hx, hce, hcv, hcl, rfl, hL, rfl, rfl⟩, ?_⟩
    show Steps p.tables e below _ (((({ U with heap := s₂.heap, slotsUsed := s₂.slotsUsed } : State).setVm s₂.vm).setTop g).pushFrame (.throwing q))
    rw [← hs₂]
    exact hsteps
end
variable {p : Program} {l : Launch} {e : Env} {R : Room} {s : State} {m : MethodId} {args : Array Value} {below : List Frame} {meth : Method} {c : Code} {T : State} {H : Heap} {locs : List Loc} {cells slots : Nat}
theorem vx_callVX (X : Stand p l e R s m args below meth c T locs cells slots) (hexec : p.tables.exec = Jvm.exec) {own C : String} {index : Nat} {y : MethodName} {bytes : ByteArray} {maxL : Nat} {ret : Option FieldType} {hh : List (Nat × Nat × Nat × Nat)}
    (hown : s.vm.findClass own = some m.cls) (hlink : (Cond.methodLink own index y).before args s = true) (hinst : (Cond.instanceMethod y).before args s = true) (hsel : (Cond.selects C y y).before args s = true)
    (hcode : (Cond.codeWith y bytes maxL ret hh).before args s = true) (hy : y.cls ≠ "java/lang/invoke/MethodHandle" ∧ y.cls ≠ "java/lang/invoke/VarHandle")
    {W9 : Nat} {Pre : Pt → Array Value → Prop} {Post : Pt → Array Value → Option Value → Pt → Prop} {PostX : Pt → Array Value → Addr → Pt → Prop} (hK : vx_Back l R p e below s args y 3 W9 Pre Post PostX)
    {b : Addr} {cellB : Cell} (hcell : T.heap[b]? = some cellB) (hobj : cellB.vm.isStatics = false) (hcls : s.vm.findClass C = some cellB.cls)
    {g : JFrame} (hg : g.method = m) (hsize : g.locals.size = c.maxLocals) {argsL rest : List Value} (hlen : ∀ sig, parseMethodDescriptor y.desc = some sig → argsL.length = sig.parameters.length)
    (hstack : g.stack = argsL.reverse ++ .ref b :: rest) (hW : 2 * g.monitorRoom + (rest.map fun v => v.category).sum ≤ W9) (hdg : decode c.code g.pc = .ok (.invokevirtual index, 3))
    (hpre : ∀ vm₁, s.WarmedH vm₁ → Pre ⟨T.setVm vm₁, locs, cells, slots⟩ (Value.ref b :: argsL).toArray) :
    (∃ (v : Option Value) (vm₁ : Vm) (B : Pt), s.WarmedH vm₁ ∧ Stand p l e R s m args below meth c B.U B.locs B.cells B.slots ∧ Post ⟨T.setVm vm₁, locs, cells, slots⟩ (Value.ref b :: argsL).toArray v B ∧
      ∀ target, Steps p.tables e below (B.U.setTop { g with pc := g.pc + 3, stack := v.toList ++ rest }) target → Steps p.tables e below (T.setTop g) target) ∨
    (∃ (q : Addr) (vm₁ : Vm) (B : Pt), s.WarmedH vm₁ ∧ Stand p l e R s m args below meth c B.U B.locs B.cells B.slots ∧ PostX ⟨T.setVm vm₁, locs, cells, slots⟩ (Value.ref b :: argsL).toArray q B ∧
      Steps p.tables e below (T.setTop g) ((B.U.setTop { g with stack := rest }).pushFrame (.throwing q))) := by
  obtain ⟨mk, methM, hnamed, hmethM, hstM, habM⟩ := Cond.instanceMethod_spec hinst
  obtain ⟨m8, methM', cM, hn8, hmethM', -, -, -, -, -, -, hsigM⟩ := Cond.codeWith_spec hcode
  cases Option.some.inj (hn8.symm.trans hnamed)
  cases hmethM.symm.trans hmethM'
  obtain ⟨c2, r2, m2, q1, q2, q3, q4, kP, hkP, hkPi⟩ := Cond.selects_spec hsel
  cases hcls.symm.trans q1
  cases (State.methodFound?_of_named hnamed hy).symm.trans q2
  cases hnamed.symm.trans q3
  have hselP : selectMethod e.platform s.vm cellB.cls mk = .method mk := by rw [Launch.admits_selectMethod X.admits]; exact q4
  obtain ⟨vm₁, X₁, hstep₁⟩ := X.invokevirtual hexec hown hlink hnamed hmethM hstM hkP hkPi hy (a := b) (cell := cellB) hcell
    (fun z h => by rw [h] at hobj; cases hobj) hselP hmethM habM hkP hkPi (g := g) hg (argsL := argsL) (rest := rest) (hlen _ hsigM) hstack hdg
  rcases hK m meth c ⟨T.setVm vm₁, locs, cells, slots⟩ { g with stack := rest } (.invokevirtual index) mk (Value.ref b :: argsL).toArray X₁ hg hsize hdg hW (X₁.named hnamed) (hpre vm₁ X₁.warmed) with ⟨v, B, X', hpost, hsteps⟩ | ⟨q, B, X', hpost, hsteps⟩
  · exact Or.inl ⟨v, vm₁, B, X₁.warmed, X', hpost, fun target h => hstep₁ _ fun acts => by rw [doInvoke_state]; exact hsteps.trans h⟩
  · exact Or.inr ⟨q, vm₁, B, X₁.warmed, X', hpost, hstep₁ _ fun acts => by rw [doInvoke_state]; exact hsteps⟩
theorem vx_callSX (X : Stand p l e R s m args below meth c T locs cells slots) (hexec : p.tables.exec = Jvm.exec) {own : String} {index : Nat} {y : MethodName} {bytes : ByteArray} {maxL : Nat} {ret : Option FieldType} {hh : List (Nat × Nat × Nat × Nat)}
    (hown : s.vm.findClass own = some m.cls) (hlink : (Cond.methodLink own index y).before args s = true) (hstat : (Cond.static y).before args s = true) (hinit : (Cond.initialized y.cls).before args s = true)
    (hcode : (Cond.codeWith y bytes maxL ret hh).before args s = true) (hy : y.cls ≠ "java/lang/invoke/MethodHandle" ∧ y.cls ≠ "java/lang/invoke/VarHandle")
    {W9 : Nat} {Pre : Pt → Array Value → Prop} {Post : Pt → Array Value → Option Value → Pt → Prop} {PostX : Pt → Array Value → Addr → Pt → Prop} (hK : vx_Back l R p e below s args y 3 W9 Pre Post PostX)
    {g : JFrame} (hg : g.method = m) (hsize : g.locals.size = c.maxLocals) {argsL rest : List Value} (hlen : ∀ sig, parseMethodDescriptor y.desc = some sig → argsL.length = sig.parameters.length)
    (hstack : g.stack = argsL.reverse ++ rest) (hW : 2 * g.monitorRoom + (rest.map fun v => v.category).sum ≤ W9) (hdg : decode c.code g.pc = .ok (.invokestatic index, 3))
    (hpre : ∀ vm₁, s.WarmedH vm₁ → Pre ⟨T.setVm vm₁, locs, cells, slots⟩ argsL.toArray) :
    (∃ (v : Option Value) (vm₁ : Vm) (B : Pt), s.WarmedH vm₁ ∧ Stand p l e R s m args below meth c B.U B.locs B.cells B.slots ∧ Post ⟨T.setVm vm₁, locs, cells, slots⟩ argsL.toArray v B ∧
      ∀ target, Steps p.tables e below (B.U.setTop { g with pc := g.pc + 3, stack := v.toList ++ rest }) target → Steps p.tables e below (T.setTop g) target) ∨
    (∃ (q : Addr) (vm₁ : Vm) (B : Pt), s.WarmedH vm₁ ∧ Stand p l e R s m args below meth c B.U B.locs B.cells B.slots ∧ PostX ⟨T.setVm vm₁, locs, cells, slots⟩ argsL.toArray q B ∧
      Steps p.tables e below (T.setTop g) ((B.U.setTop { g with stack := rest }).pushFrame (.throwing q))) := by
  obtain ⟨mk, methM, cM, hnamed, hmethM, -, -, -, -, -, -, hsigM⟩ := Cond.codeWith_spec hcode
  have hstatic : methM.isStatic = true := Cond.static_spec hnamed hmethM hstat
  obtain ⟨kP, hkP, -⟩ := className_of_methodNamed hnamed
  have hinitP : kP.init = .initialized := Cond.initialized_spec (findClass_of_methodNamed hnamed) hkP hinit
  obtain ⟨vm₁, X₁, hstep₁⟩ := X.invokestatic hexec hown hlink hnamed hmethM hstatic hkP hinitP hy (g := g) hg (argsL := argsL) (rest := rest) (hlen _ hsigM) hstack hdg
  rcases hK m meth c ⟨T.setVm vm₁, locs, cells, slots⟩ { g with stack := rest } (.invokestatic index) mk argsL.toArray X₁ hg hsize hdg hW (X₁.named hnamed) (hpre vm₁ X₁.warmed) with ⟨v, B, X', hpost, hsteps⟩ | ⟨q, B, X', hpost, hsteps⟩
  · exact Or.inl ⟨v, vm₁, B, X₁.warmed, X', hpost, fun target h => hstep₁ _ fun acts => by rw [doInvoke_state]; exact hsteps.trans h⟩
  · exact Or.inr ⟨q, vm₁, B, X₁.warmed, X', hpost, hstep₁ _ fun acts => by rw [doInvoke_state]; exact hsteps⟩
theorem vx_callVW (X : Stand p l e R s m args below meth c T locs cells slots) (hexec : p.tables.exec = Jvm.exec) {own C : String} {index : Nat} {y : MethodName} {bytes : ByteArray} {maxL : Nat} {ret : Option FieldType} {hh : List (Nat × Nat × Nat × Nat)}
    (hown : s.vm.findClass own = some m.cls) (hlink : (Cond.methodLink own index y).before args s = true) (hinst : (Cond.instanceMethod y).before args s = true) (hsel : (Cond.selects C y y).before args s = true)
    (hcode : (Cond.codeWith y bytes maxL ret hh).before args s = true) (hy : y.cls ≠ "java/lang/invoke/MethodHandle" ∧ y.cls ≠ "java/lang/invoke/VarHandle")
    {W9 : Nat} {Pre : Pt → Array Value → Prop} {Post : Pt → Array Value → Option Value → Pt → Prop} (hK : Back l R p e below s args y 3 W9 Pre Post)
    {b : Addr} {cellB : Cell} (hcell : T.heap[b]? = some cellB) (hobj : cellB.vm.isStatics = false) (hcls : s.vm.findClass C = some cellB.cls)
    {g : JFrame} (hg : g.method = m) (hsize : g.locals.size = c.maxLocals) {argsL rest : List Value} (hlen : ∀ sig, parseMethodDescriptor y.desc = some sig → argsL.length = sig.parameters.length)
    (hstack : g.stack = argsL.reverse ++ .ref b :: rest) (hW : 2 * g.monitorRoom + (rest.map fun v => v.category).sum ≤ W9) (hdg : decode c.code g.pc = .ok (.invokevirtual index, 3))
    (hpre : ∀ vm₁, s.WarmedH vm₁ → Pre ⟨T.setVm vm₁, locs, cells, slots⟩ (Value.ref b :: argsL).toArray) :
    ∃ (v : Option Value) (vm₁ : Vm) (B : Pt), s.WarmedH vm₁ ∧ Stand p l e R s m args below meth c B.U B.locs B.cells B.slots ∧ Post ⟨T.setVm vm₁, locs, cells, slots⟩ (Value.ref b :: argsL).toArray v B ∧
      ∀ target, Steps p.tables e below (B.U.setTop { g with pc := g.pc + 3, stack := v.toList ++ rest }) target → Steps p.tables e below (T.setTop g) target := by
  obtain ⟨mk, methM, hnamed, hmethM, hstM, habM⟩ := Cond.instanceMethod_spec hinst
  obtain ⟨m8, methM', cM, hn8, hmethM', -, -, -, -, -, -, hsigM⟩ := Cond.codeWith_spec hcode
  cases Option.some.inj (hn8.symm.trans hnamed)
  cases hmethM.symm.trans hmethM'
  obtain ⟨c2, r2, m2, q1, q2, q3, q4, kP, hkP, hkPi⟩ := Cond.selects_spec hsel
  cases hcls.symm.trans q1
  cases (State.methodFound?_of_named hnamed hy).symm.trans q2
  cases hnamed.symm.trans q3
  have hselP : selectMethod e.platform s.vm cellB.cls mk = .method mk := by rw [Launch.admits_selectMethod X.admits]; exact q4
  obtain ⟨vm₁, X₁, hstep₁⟩ := X.invokevirtual hexec hown hlink hnamed hmethM hstM hkP hkPi hy (a := b) (cell := cellB) hcell
    (fun z h => by rw [h] at hobj; cases hobj) hselP hmethM habM hkP hkPi (g := g) hg (argsL := argsL) (rest := rest) (hlen _ hsigM) hstack hdg
  obtain ⟨v, B, X', hpost, hsteps⟩ := hK m meth c ⟨T.setVm vm₁, locs, cells, slots⟩ { g with stack := rest } (.invokevirtual index) mk (Value.ref b :: argsL).toArray X₁ hg hsize hdg hW (X₁.named hnamed) (hpre vm₁ X₁.warmed)
  exact ⟨v, vm₁, B, X₁.warmed, X', hpost, fun target h => hstep₁ _ fun acts => by rw [doInvoke_state]; exact hsteps.trans h⟩
abbrev vx_CVW (R : Room) (s : State) (args : Array Value) (own C : String) (index : Nat) (y : MethodName) (bytes : ByteArray) (maxL : Nat) (ret : Option FieldType) (hh : List (Nat × Nat × Nat × Nat)) (ws : List Cond) (rm : Room) (mc ms n : Nat) : Prop :=
  (rm.cells = mc ∧ rm.slots = ms ∧ rm.frames + 1 ≤ R.frames ∧ 8 + (maxL + 11) + rm.locals ≤ R.locals ∧ (∀ w ∈ ws, ∀ (a' : Array Value) (U : State), s.WarmedH U.vm → w.before a' U = true) ∧ Cond.codeWith y bytes maxL ret hh ∈ ws) ∧
  (Cond.codeWith y bytes maxL ret hh).before args s = true ∧ (Cond.initialized y.cls).before args s = true ∧ (y.cls ≠ "java/lang/invoke/MethodHandle" ∧ y.cls ≠ "java/lang/invoke/VarHandle") ∧
  (∀ sig, parseMethodDescriptor y.desc = some sig → n = sig.parameters.length) ∧ (Cond.methodLink own index y).before args s = true ∧ (Cond.instanceMethod y).before args s = true ∧ (Cond.selects C y y).before args s = true
theorem vx_cwVW {own C : String} {index maxL mc ms : Nat} {y : MethodName} {bytes : ByteArray} {ret : Option FieldType} {hh : List (Nat × Nat × Nat × Nat)} {Ts ws ws' : List Cond} {rm : Room} (n : Nat) (ht : ∀ w ∈ Ts, w.before args s = true) (hT : GoodIn Ts (wsV own index C y ws)) (hw : ws = Cond.codeWith y bytes maxL ret hh :: ws') (hrc : rm.cells = mc) (hrs : rm.slots = ms)
    (hd : y.cls = C ∧ y.cls ≠ "java/lang/invoke/MethodHandle" ∧ y.cls ≠ "java/lang/invoke/VarHandle" ∧ (parseMethodDescriptor y.desc).map (fun d => d.parameters.length) = some n) (hR : rm.frames + 1 ≤ R.frames ∧ 8 + (maxL + 11) + rm.locals ≤ R.locals) :
    vx_CVW R s args own C index y bytes maxL ret hh ws rm mc ms n := by
  obtain ⟨hC, hd⟩ := hd
  subst hC
  have ok : ∀ w ∈ wsV own index y.cls y ws, w.before args s = true := fun w h => ht w (hT w h).1
  have hG : GoodIn Ts ws := fun w h => hT w (by unfold wsV; exact List.mem_append_right _ h)
  have hc : Cond.codeWith y bytes maxL ret hh ∈ ws := by rw [hw]; exact List.mem_cons_self
  refine ⟨⟨hrc, hrs, hR.1, hR.2, pay_in ht hG, hc⟩, ht _ (hG _ hc).1, ok _ (by simp [wsV]), ⟨hd.1, hd.2.1⟩, fun sig h => ?_, ok _ (by simp [wsV]), ok _ (by simp [wsV]), ok _ (by simp [wsV])⟩
  have h2 := hd.2.2
  rw [h] at h2
  exact (Option.some.inj h2).symm
theorem vx_runVW {y : MethodName} {bytes cc : ByteArray} {maxL nL mc ms n index : Nat} {ret : Option FieldType} {hh : List (Nat × Nat × Nat × Nat)} {ws : List Cond} {rm : Room} {Pc : Array Value → State → Prop} {Qc : Array Value → State → Outcome → State → Prop} {free : Addr → Prop} {Ts : List Cond} {own C : String} {b : Addr} {As rest : List Value} {g : JFrame}
    (S : CallFix p m c cc nL s args Ts own) (hM : Met l y ws rm Pc Qc mc ms free) (cw : vx_CVW R s args own C index y bytes maxL ret hh ws rm mc ms n) (hp : PreV s H C b Pc As)
    (hg : g.method = m) (hn : As.length = n) (hsize : g.locals.size = nL) (hstack : g.stack = As.reverse ++ .ref b :: rest) (hW : 2 * g.monitorRoom + (rest.map fun v => v.category).sum ≤ 8) (hdg : decode cc g.pc = .ok (.invokevirtual index, 3)) (hf : cells + mc ≤ R.cells ∧ slots + ms ≤ R.slots) :
    va_Run p l e R s m args below meth c H locs cells slots mc ms g rest (Qc (Value.ref b :: As).toArray) free := by
  obtain ⟨⟨hrc, hrs, hfr, hlo, hws, hcw⟩, hcode, hini, hy, hlen, hl, hin, hse⟩ := cw
  have hK : Back l R p e below s args y 3 8 (PreOf R mc ms Pc) (PostOf Qc mc ms free) := va_backW (hh := hh) (bytes := bytes) (maxL := maxL) (ret := ret) hM hp.1 hrc hrs hfr hlo hws hcw (fun a' U hW => word_at hW (Or.inl (by first | rfl | simp [Cond.onTables, Cond.keeps, Cond.steady])) hini)
  obtain ⟨hx, hb, hml, ho, -⟩ := S
  obtain ⟨-, ⟨cellB, hcB, hoB, hclB⟩, hPc⟩ := hp
  intro T hT X
  obtain ⟨v, vm₁, ⟨U', l2, c2, s2⟩, hW₁, X', ⟨g', mk, t, L, e1, e2, hq, h1, hL, h2, h3⟩, st⟩ := vx_callVW X hx (C := C) (hh := hh) (bytes := bytes) (maxL := maxL) (ret := ret) ho hl hin hse hcode hy hK (by rw [hT]; exact hcB) hoB hclB hg (hsize.trans hml.symm) (argsL := As) (rest := rest) (fun sig h => hn.trans (hlen sig h)) hstack hW (by rw [hb]; exact hdg)
    (fun vm₁ hW₁ => ⟨hf.1, hf.2, hPc (T.setVm vm₁) hT hW₁⟩)
  dsimp only [Pt.U, Pt.locs, Pt.cells, Pt.slots] at X' e1 e2 h1 h2 h3 st
  subst h1; subst h2; subst h3
  exact ⟨v, (T.setVm vm₁).calling g' mk (Value.ref b :: As).toArray, t, U', L, hT, X', hL, e1, e2, hq, st⟩
section
variable {y : MethodName} {bytes cc : ByteArray} {maxL nL mc ms n index : Nat} {ret : Option FieldType} {ws : List Cond} {rm : Room} {Pc : Array Value → State → Prop} {Qc : Array Value → State → Outcome → State → Prop} {XC : String → State → State → Prop} {free : Addr → Prop} {Ts : List Cond} {own C : String} {b : Addr} {As rest : List Value} {g : JFrame}
theorem vx_runVX {hh : List (Nat × Nat × Nat × Nat)} (S : CallFix p m c cc nL s args Ts own) (hM : vx_Met l y ws rm Pc Qc XC mc ms free) (cw : vx_CVW R s args own C index y bytes maxL ret hh ws rm mc ms n) (hp : PreV s H C b Pc As)
    (hg : g.method = m) (hn : As.length = n) (hsize : g.locals.size = nL) (hstack : g.stack = As.reverse ++ .ref b :: rest) (hW : 2 * g.monitorRoom + (rest.map fun v => v.category).sum ≤ 8) (hdg : decode cc g.pc = .ok (.invokevirtual index, 3)) (hf : cells + mc ≤ R.cells ∧ slots + ms ≤ R.slots) :
    vx_Run p l e R s m args below meth c H locs cells slots mc ms g rest (Qc (Value.ref b :: As).toArray) XC free := by
  obtain ⟨⟨hrc, hrs, hfr, hlo, hws, hcw⟩, hcode, hini, hy, hlen, hl, hin, hse⟩ := cw
  have hK : vx_Back l R p e below s args y 3 8 (PreOf R mc ms Pc) (PostOf Qc mc ms free) (vx_Post XC mc ms free) := vx_backW (hh := hh) (bytes := bytes) (maxL := maxL) (ret := ret) hM hp.1 hrc hrs hfr hlo hws hcw (fun a' U hW => word_at hW (Or.inl (by first | rfl | simp [Cond.onTables, Cond.keeps, Cond.steady])) hini)
  obtain ⟨hx, hb, hml, ho, -⟩ := S
  obtain ⟨-, ⟨cellB, hcB, hoB, hclB⟩, hPc⟩ := hp
  intro T hT X
  rcases vx_callVX X hx (C := C) (hh := hh) (bytes := bytes) (maxL := maxL) (ret := ret) ho hl hin hse hcode hy hK (by rw [hT]; exact hcB) hoB hclB hg (hsize.trans hml.symm) (argsL := As) (rest := rest) (fun sig h => hn.trans (hlen sig h)) hstack hW (by rw [hb]; exact hdg)
    (fun vm₁ hW₁ => ⟨hf.1, hf.2, hPc (T.setVm vm₁) hT hW₁⟩) with ⟨v, vm₁, ⟨U', l2, c2, s2⟩, hW₁, X', ⟨g', mk, t, L, e1, e2, hq, h1, hL, h2, h3⟩, st⟩ | ⟨q, vm₁, ⟨U', l2, c2, s2⟩, hW₁, X', ⟨g', mk, t, L, E, ce, e1, e2, hq, hce, hcv, hcl, h1, hL, h2, h3⟩, st⟩
  · dsimp only [Pt.U, Pt.locs, Pt.cells, Pt.slots] at X' e1 e2 h1 h2 h3 st
    subst h1; subst h2; subst h3
    exact Or.inl ⟨v, (T.setVm vm₁).calling g' mk (Value.ref b :: As).toArray, t, U', L, hT, X', hL, e1, e2, hq, st⟩
  · dsimp only [Pt.U, Pt.locs, Pt.cells, Pt.slots] at X' e1 e2 h1 h2 h3 st hcl
    subst h1; subst h2; subst h3
    exact Or.inr ⟨q, (T.setVm vm₁).calling g' mk (Value.ref b :: As).toArray, t, U', L, E, ce, hT, X', hL, e1, e2, hq, hce, hcv, vx_cls hW₁ hcl, st⟩
theorem vx_runSX {hh : List (Nat × Nat × Nat × Nat)} (S : CallFix p m c cc nL s args Ts own) (hM : vx_Met l y ws rm Pc Qc XC mc ms free) (cw : vx_CSW R s args own index y bytes maxL ret hh ws rm mc ms n) (hp : PreS s H Pc As)
    (hg : g.method = m) (hn : As.length = n) (hsize : g.locals.size = nL) (hstack : g.stack = As.reverse ++ rest) (hW : 2 * g.monitorRoom + (rest.map fun v => v.category).sum ≤ 8) (hdg : decode cc g.pc = .ok (.invokestatic index, 3)) (hf : cells + mc ≤ R.cells ∧ slots + ms ≤ R.slots) :
    vx_Run p l e R s m args below meth c H locs cells slots mc ms g rest (Qc As.toArray) XC free := by
  obtain ⟨⟨hrc, hrs, hfr, hlo, hws, hcw⟩, hcode, hini, hy, hlen, hl, hstt⟩ := cw
  have hK : vx_Back l R p e below s args y 3 8 (PreOf R mc ms Pc) (PostOf Qc mc ms free) (vx_Post XC mc ms free) := vx_backW (hh := hh) (bytes := bytes) (maxL := maxL) (ret := ret) hM hp.1 hrc hrs hfr hlo hws hcw (fun a' U hW => word_at hW (Or.inl (by first | rfl | simp [Cond.onTables, Cond.keeps, Cond.steady])) hini)
  obtain ⟨hx, hb, hml, ho, -⟩ := S
  intro T hT X
  rcases vx_callSX X hx (hh := hh) (bytes := bytes) (maxL := maxL) (ret := ret) ho hl hstt hini hcode hy hK hg (hsize.trans hml.symm) (argsL := As) (rest := rest) (fun sig h => hn.trans (hlen sig h)) hstack hW (by rw [hb]; exact hdg)
    (fun vm₁ hW₁ => ⟨hf.1, hf.2, hp.2 (T.setVm vm₁) hT hW₁⟩) with ⟨v, vm₁, ⟨U', l2, c2, s2⟩, hW₁, X', ⟨g', mk, t, L, e1, e2, hq, h1, hL, h2, h3⟩, st⟩ | ⟨q, vm₁, ⟨U', l2, c2, s2⟩, hW₁, X', ⟨g', mk, t, L, E, ce, e1, e2, hq, hce, hcv, hcl, h1, hL, h2, h3⟩, st⟩
  · dsimp only [Pt.U, Pt.locs, Pt.cells, Pt.slots] at X' e1 e2 h1 h2 h3 st
    subst h1; subst h2; subst h3
    exact Or.inl ⟨v, (T.setVm vm₁).calling g' mk As.toArray, t, U', L, hT, X', hL, e1, e2, hq, st⟩
  · dsimp only [Pt.U, Pt.locs, Pt.cells, Pt.slots] at X' e1 e2 h1 h2 h3 st hcl
    subst h1; subst h2; subst h3
    exact Or.inr ⟨q, (T.setVm vm₁).calling g' mk As.toArray, t, U', L, E, ce, hT, X', hL, e1, e2, hq, hce, hcv, vx_cls hW₁ hcl, st⟩
end
end VXH
theorem vx_ofWH {l : Launch} {y : MethodName} {ws ws' : List Cond} {rm : Room} {Pc : Array Value → State → Prop} {Qc : Array Value → State → Outcome → State → Prop} {XC : String → State → State → Prop} {mc ms : Nat} {free : Addr → Prop} {cc : ByteArray} {maxL : Nat} {ret : Option FieldType} {hh : List (Nat × Nat × Nat × Nat)}
    (hy : plainName y.cls = true) (hw : ws = Cond.codeWith y cc maxL ret hh :: ws')
    (body : ∀ p e s m args below meth c s₁, BodyLoose p l y (headSpec ws rm) cc maxL ret e s m args below meth c s₁ → c.maxLocals = maxL → Pc args s →
      W p l e (headSpec ws rm).room s m args below meth c s.heap [] 0 0 (vx_MQ below Qc XC args s mc ms free) (entryFrame m args maxL)) : vx_Met l y ws rm Pc Qc XC mc ms free := by
  refine MetFree.of_bodyS (code := cc) (maxLocals := maxL) (ret := ret) hy ?_ ?_
  · intro args s m h hn
    obtain ⟨m9, meth, c, hn9, h1, h2, h3, h4, -, h5, h6, -⟩ := Cond.codeWith_spec (atoms_spec (ws := ws) h _ (by rw [hw]; exact List.mem_cons_self))
    cases hn.symm.trans hn9
    exact ⟨meth, c, h1, h2, h3, h4, h5, h6⟩
  · intro p e s m args below meth c s₁ B hml hP _
    have hh0 : s₁.heap = s.heap := by rw [B.state]; rfl
    obtain ⟨t, a1, o, b1, b2, b3⟩ := body p e s m args below meth c s₁ B hml hP s₁ hh0 (Stand.of_body B)
    exact ⟨t, o, a1, b1, b2, b3⟩
/-! ===== END ===== -/
end
section
-- ===== PART A: goes FIRST, ahead of the names: the tables' words, and 'selects' of the private methods out of them =====
/-- a private method of a class that the tables say can be made, by its rows of tables_1 -/
def lw_okq (q : MethodName × Nat) : Prop := (q.1.cls ≠ "java/lang/invoke/MethodHandle" ∧ q.1.cls ≠ "java/lang/invoke/VarHandle") ∧ Cond.instantiable q.1.cls q.2 ∈ tables_1 ∧ Cond.privateMethod q.1 ∈ tables_1 ∧ Cond.instanceMethod q.1 ∈ tables_1
theorem lw_p0 : lw_okq (⟨"SharedFibre", "passDark", "()V"⟩, 16) := ⟨⟨by decide +kernel, by decide +kernel⟩, List.mem_of_getElem? (i := 13) (by decide +kernel), List.mem_of_getElem? (i := 201) (by decide +kernel), List.mem_of_getElem? (i := 202) (by decide +kernel)⟩
theorem lw_p1 : lw_okq (⟨"SharedFibre", "passQuiet", "()V"⟩, 16) := ⟨⟨by decide +kernel, by decide +kernel⟩, List.mem_of_getElem? (i := 13) (by decide +kernel), List.mem_of_getElem? (i := 205) (by decide +kernel), List.mem_of_getElem? (i := 206) (by decide +kernel)⟩
theorem lw_p2 : lw_okq (⟨"SharedFibre", "watchErrors", "()V"⟩, 16) := ⟨⟨by decide +kernel, by decide +kernel⟩, List.mem_of_getElem? (i := 13) (by decide +kernel), List.mem_of_getElem? (i := 218) (by decide +kernel), List.mem_of_getElem? (i := 219) (by decide +kernel)⟩
theorem lw_p3 : lw_okq (⟨"SharedFibre", "makeMap", "()V"⟩, 16) := ⟨⟨by decide +kernel, by decide +kernel⟩, List.mem_of_getElem? (i := 13) (by decide +kernel), List.mem_of_getElem? (i := 225) (by decide +kernel), List.mem_of_getElem? (i := 226) (by decide +kernel)⟩
theorem lw_p4 : lw_okq (⟨"SharedFibre", "giveSpare", "(I)I"⟩, 16) := ⟨⟨by decide +kernel, by decide +kernel⟩, List.mem_of_getElem? (i := 13) (by decide +kernel), List.mem_of_getElem? (i := 239) (by decide +kernel), List.mem_of_getElem? (i := 240) (by decide +kernel)⟩
theorem lw_p5 : lw_okq (⟨"SharedFibre", "nextToGive", "()LSharedFibre$Container;"⟩, 16) := ⟨⟨by decide +kernel, by decide +kernel⟩, List.mem_of_getElem? (i := 13) (by decide +kernel), List.mem_of_getElem? (i := 243) (by decide +kernel), List.mem_of_getElem? (i := 244) (by decide +kernel)⟩
theorem lw_p6 : lw_okq (⟨"SharedFibre", "layBursts", "()V"⟩, 16) := ⟨⟨by decide +kernel, by decide +kernel⟩, List.mem_of_getElem? (i := 13) (by decide +kernel), List.mem_of_getElem? (i := 255) (by decide +kernel), List.mem_of_getElem? (i := 256) (by decide +kernel)⟩
theorem lw_p7 : lw_okq (⟨"SharedFibre", "countMeetings", "()V"⟩, 16) := ⟨⟨by decide +kernel, by decide +kernel⟩, List.mem_of_getElem? (i := 13) (by decide +kernel), List.mem_of_getElem? (i := 263) (by decide +kernel), List.mem_of_getElem? (i := 264) (by decide +kernel)⟩
theorem lw_p8 : lw_okq (⟨"SharedFibre", "sendBlocks", "()V"⟩, 16) := ⟨⟨by decide +kernel, by decide +kernel⟩, List.mem_of_getElem? (i := 13) (by decide +kernel), List.mem_of_getElem? (i := 269) (by decide +kernel), List.mem_of_getElem? (i := 270) (by decide +kernel)⟩
theorem lw_p9 : lw_okq (⟨"SharedFibre", "sendFrom", "(LSharedFibre$Container;II)V"⟩, 16) := ⟨⟨by decide +kernel, by decide +kernel⟩, List.mem_of_getElem? (i := 13) (by decide +kernel), List.mem_of_getElem? (i := 273) (by decide +kernel), List.mem_of_getElem? (i := 274) (by decide +kernel)⟩
theorem lw_p10 : lw_okq (⟨"SharedFibre", "note", "(III)V"⟩, 16) := ⟨⟨by decide +kernel, by decide +kernel⟩, List.mem_of_getElem? (i := 13) (by decide +kernel), List.mem_of_getElem? (i := 281) (by decide +kernel), List.mem_of_getElem? (i := 282) (by decide +kernel)⟩
theorem lw_p11 : lw_okq (⟨"SharedFibre", "tellDown", "()V"⟩, 16) := ⟨⟨by decide +kernel, by decide +kernel⟩, List.mem_of_getElem? (i := 13) (by decide +kernel), List.mem_of_getElem? (i := 293) (by decide +kernel), List.mem_of_getElem? (i := 294) (by decide +kernel)⟩
theorem lw_p12 : lw_okq (⟨"SharedFibre", "clearSpoilt", "()V"⟩, 16) := ⟨⟨by decide +kernel, by decide +kernel⟩, List.mem_of_getElem? (i := 13) (by decide +kernel), List.mem_of_getElem? (i := 305) (by decide +kernel), List.mem_of_getElem? (i := 306) (by decide +kernel)⟩
theorem lw_p13 : lw_okq (⟨"SharedFibre", "hasSerial", "(I)Z"⟩, 16) := ⟨⟨by decide +kernel, by decide +kernel⟩, List.mem_of_getElem? (i := 13) (by decide +kernel), List.mem_of_getElem? (i := 318) (by decide +kernel), List.mem_of_getElem? (i := 319) (by decide +kernel)⟩
theorem lw_p14 : lw_okq (⟨"java/lang/Throwable", "fillInStackTrace", "(I)Ljava/lang/Throwable;"⟩, 6) := ⟨⟨by decide +kernel, by decide +kernel⟩, List.mem_of_getElem? (i := 360) (by decide +kernel), List.mem_of_getElem? (i := 358) (by decide +kernel), List.mem_of_getElem? (i := 359) (by decide +kernel)⟩
theorem lw_p15 : lw_okq (⟨"SharedFibre", "firstAway", "()I"⟩, 16) := ⟨⟨by decide +kernel, by decide +kernel⟩, List.mem_of_getElem? (i := 13) (by decide +kernel), List.mem_of_getElem? (i := 394) (by decide +kernel), List.mem_of_getElem? (i := 395) (by decide +kernel)⟩
def lw_privs_1 : List (MethodName × Nat) := [(⟨"SharedFibre", "passDark", "()V"⟩, 16), (⟨"SharedFibre", "passQuiet", "()V"⟩, 16), (⟨"SharedFibre", "watchErrors", "()V"⟩, 16), (⟨"SharedFibre", "makeMap", "()V"⟩, 16), (⟨"SharedFibre", "giveSpare", "(I)I"⟩, 16), (⟨"SharedFibre", "nextToGive", "()LSharedFibre$Container;"⟩, 16), (⟨"SharedFibre", "layBursts", "()V"⟩, 16), (⟨"SharedFibre", "countMeetings", "()V"⟩, 16), (⟨"SharedFibre", "sendBlocks", "()V"⟩, 16), (⟨"SharedFibre", "sendFrom", "(LSharedFibre$Container;II)V"⟩, 16), (⟨"SharedFibre", "note", "(III)V"⟩, 16), (⟨"SharedFibre", "tellDown", "()V"⟩, 16), (⟨"SharedFibre", "clearSpoilt", "()V"⟩, 16), (⟨"SharedFibre", "hasSerial", "(I)Z"⟩, 16), (⟨"java/lang/Throwable", "fillInStackTrace", "(I)Ljava/lang/Throwable;"⟩, 6), (⟨"SharedFibre", "firstAway", "()I"⟩, 16)]
theorem lw_r1 : ∀ q ∈ lw_privs_1, lw_okq q := List.forall_mem_cons.mpr ⟨lw_p0, List.forall_mem_cons.mpr ⟨lw_p1, List.forall_mem_cons.mpr ⟨lw_p2, List.forall_mem_cons.mpr ⟨lw_p3, List.forall_mem_cons.mpr ⟨lw_p4, List.forall_mem_cons.mpr ⟨lw_p5, List.forall_mem_cons.mpr ⟨lw_p6, List.forall_mem_cons.mpr ⟨lw_p7, List.forall_mem_cons.mpr ⟨lw_p8, List.forall_mem_cons.mpr ⟨lw_p9, List.forall_mem_cons.mpr ⟨lw_p10, List.forall_mem_cons.mpr ⟨lw_p11, List.forall_mem_cons.mpr ⟨lw_p12, List.forall_mem_cons.mpr ⟨lw_p13, List.forall_mem_cons.mpr ⟨lw_p14, List.forall_mem_cons.mpr ⟨lw_p15, fun _ h => absurd h List.not_mem_nil⟩⟩⟩⟩⟩⟩⟩⟩⟩⟩⟩⟩⟩⟩⟩⟩
theorem lw_p16 : lw_okq (⟨"SharedFibre", "plugged", "(I)LSharedFibre$Unit;"⟩, 16) := ⟨⟨by decide +kernel, by decide +kernel⟩, List.mem_of_getElem? (i := 13) (by decide +kernel), List.mem_of_getElem? (i := 421) (by decide +kernel), List.mem_of_getElem? (i := 422) (by decide +kernel)⟩
theorem lw_p17 : lw_okq (⟨"SharedFibre", "numbered", "(I)LSharedFibre$Unit;"⟩, 16) := ⟨⟨by decide +kernel, by decide +kernel⟩, List.mem_of_getElem? (i := 13) (by decide +kernel), List.mem_of_getElem? (i := 425) (by decide +kernel), List.mem_of_getElem? (i := 426) (by decide +kernel)⟩
theorem lw_p18 : lw_okq (⟨"SharedFibre", "pluggedContainer", "(II)LSharedFibre$Container;"⟩, 16) := ⟨⟨by decide +kernel, by decide +kernel⟩, List.mem_of_getElem? (i := 13) (by decide +kernel), List.mem_of_getElem? (i := 446) (by decide +kernel), List.mem_of_getElem? (i := 447) (by decide +kernel)⟩
theorem lw_p19 : lw_okq (⟨"SharedFibre", "contracted", "()I"⟩, 16) := ⟨⟨by decide +kernel, by decide +kernel⟩, List.mem_of_getElem? (i := 13) (by decide +kernel), List.mem_of_getElem? (i := 456) (by decide +kernel), List.mem_of_getElem? (i := 457) (by decide +kernel)⟩
theorem lw_p20 : lw_okq (⟨"SharedFibreModel", "empty", "(I)V"⟩, 41) := ⟨⟨by decide +kernel, by decide +kernel⟩, List.mem_of_getElem? (i := 560) (by decide +kernel), List.mem_of_getElem? (i := 698) (by decide +kernel), List.mem_of_getElem? (i := 699) (by decide +kernel)⟩
theorem lw_p21 : lw_okq (⟨"SharedFibreModel", "isAway", "(I)Z"⟩, 41) := ⟨⟨by decide +kernel, by decide +kernel⟩, List.mem_of_getElem? (i := 560) (by decide +kernel), List.mem_of_getElem? (i := 706) (by decide +kernel), List.mem_of_getElem? (i := 707) (by decide +kernel)⟩
theorem lw_p22 : lw_okq (⟨"SharedFibreModel", "noContainer", "(II)Z"⟩, 41) := ⟨⟨by decide +kernel, by decide +kernel⟩, List.mem_of_getElem? (i := 560) (by decide +kernel), List.mem_of_getElem? (i := 714) (by decide +kernel), List.mem_of_getElem? (i := 715) (by decide +kernel)⟩
theorem lw_p23 : lw_okq (⟨"SharedFibreModel", "darkFrame", "()V"⟩, 41) := ⟨⟨by decide +kernel, by decide +kernel⟩, List.mem_of_getElem? (i := 560) (by decide +kernel), List.mem_of_getElem? (i := 750) (by decide +kernel), List.mem_of_getElem? (i := 751) (by decide +kernel)⟩
theorem lw_p24 : lw_okq (⟨"SharedFibreModel", "extra", "(I)I"⟩, 41) := ⟨⟨by decide +kernel, by decide +kernel⟩, List.mem_of_getElem? (i := 560) (by decide +kernel), List.mem_of_getElem? (i := 754) (by decide +kernel), List.mem_of_getElem? (i := 755) (by decide +kernel)⟩
theorem lw_p25 : lw_okq (⟨"SharedFibreModel", "quietFrame", "()V"⟩, 41) := ⟨⟨by decide +kernel, by decide +kernel⟩, List.mem_of_getElem? (i := 560) (by decide +kernel), List.mem_of_getElem? (i := 758) (by decide +kernel), List.mem_of_getElem? (i := 759) (by decide +kernel)⟩
theorem lw_p26 : lw_okq (⟨"SharedFibreModel", "window", "(I)I"⟩, 41) := ⟨⟨by decide +kernel, by decide +kernel⟩, List.mem_of_getElem? (i := 560) (by decide +kernel), List.mem_of_getElem? (i := 762) (by decide +kernel), List.mem_of_getElem? (i := 763) (by decide +kernel)⟩
theorem lw_p27 : lw_okq (⟨"SharedFibreModel", "mix", "(II)I"⟩, 41) := ⟨⟨by decide +kernel, by decide +kernel⟩, List.mem_of_getElem? (i := 560) (by decide +kernel), List.mem_of_getElem? (i := 766) (by decide +kernel), List.mem_of_getElem? (i := 767) (by decide +kernel)⟩
theorem lw_p28 : lw_okq (⟨"SharedFibreModel", "level", "(I)V"⟩, 41) := ⟨⟨by decide +kernel, by decide +kernel⟩, List.mem_of_getElem? (i := 560) (by decide +kernel), List.mem_of_getElem? (i := 772) (by decide +kernel), List.mem_of_getElem? (i := 773) (by decide +kernel)⟩
theorem lw_p29 : lw_okq (⟨"SharedFibreModel", "look", "(I)V"⟩, 41) := ⟨⟨by decide +kernel, by decide +kernel⟩, List.mem_of_getElem? (i := 560) (by decide +kernel), List.mem_of_getElem? (i := 776) (by decide +kernel), List.mem_of_getElem? (i := 777) (by decide +kernel)⟩
theorem lw_p30 : lw_okq (⟨"SharedFibreModel", "errorOf", "(I)I"⟩, 41) := ⟨⟨by decide +kernel, by decide +kernel⟩, List.mem_of_getElem? (i := 560) (by decide +kernel), List.mem_of_getElem? (i := 780) (by decide +kernel), List.mem_of_getElem? (i := 781) (by decide +kernel)⟩
theorem lw_p31 : lw_okq (⟨"SharedFibreModel", "map", "()V"⟩, 41) := ⟨⟨by decide +kernel, by decide +kernel⟩, List.mem_of_getElem? (i := 560) (by decide +kernel), List.mem_of_getElem? (i := 784) (by decide +kernel), List.mem_of_getElem? (i := 785) (by decide +kernel)⟩
def lw_privs_2 : List (MethodName × Nat) := [(⟨"SharedFibre", "plugged", "(I)LSharedFibre$Unit;"⟩, 16), (⟨"SharedFibre", "numbered", "(I)LSharedFibre$Unit;"⟩, 16), (⟨"SharedFibre", "pluggedContainer", "(II)LSharedFibre$Container;"⟩, 16), (⟨"SharedFibre", "contracted", "()I"⟩, 16), (⟨"SharedFibreModel", "empty", "(I)V"⟩, 41), (⟨"SharedFibreModel", "isAway", "(I)Z"⟩, 41), (⟨"SharedFibreModel", "noContainer", "(II)Z"⟩, 41), (⟨"SharedFibreModel", "darkFrame", "()V"⟩, 41), (⟨"SharedFibreModel", "extra", "(I)I"⟩, 41), (⟨"SharedFibreModel", "quietFrame", "()V"⟩, 41), (⟨"SharedFibreModel", "window", "(I)I"⟩, 41), (⟨"SharedFibreModel", "mix", "(II)I"⟩, 41), (⟨"SharedFibreModel", "level", "(I)V"⟩, 41), (⟨"SharedFibreModel", "look", "(I)V"⟩, 41), (⟨"SharedFibreModel", "errorOf", "(I)I"⟩, 41), (⟨"SharedFibreModel", "map", "()V"⟩, 41)]
theorem lw_r2 : ∀ q ∈ lw_privs_2, lw_okq q := List.forall_mem_cons.mpr ⟨lw_p16, List.forall_mem_cons.mpr ⟨lw_p17, List.forall_mem_cons.mpr ⟨lw_p18, List.forall_mem_cons.mpr ⟨lw_p19, List.forall_mem_cons.mpr ⟨lw_p20, List.forall_mem_cons.mpr ⟨lw_p21, List.forall_mem_cons.mpr ⟨lw_p22, List.forall_mem_cons.mpr ⟨lw_p23, List.forall_mem_cons.mpr ⟨lw_p24, List.forall_mem_cons.mpr ⟨lw_p25, List.forall_mem_cons.mpr ⟨lw_p26, List.forall_mem_cons.mpr ⟨lw_p27, List.forall_mem_cons.mpr ⟨lw_p28, List.forall_mem_cons.mpr ⟨lw_p29, List.forall_mem_cons.mpr ⟨lw_p30, List.forall_mem_cons.mpr ⟨lw_p31, fun _ h => absurd h List.not_mem_nil⟩⟩⟩⟩⟩⟩⟩⟩⟩⟩⟩⟩⟩⟩⟩⟩
theorem lw_p32 : lw_okq (⟨"SharedFibreModel", "wants", "(I)Z"⟩, 41) := ⟨⟨by decide +kernel, by decide +kernel⟩, List.mem_of_getElem? (i := 560) (by decide +kernel), List.mem_of_getElem? (i := 788) (by decide +kernel), List.mem_of_getElem? (i := 789) (by decide +kernel)⟩
theorem lw_p33 : lw_okq (⟨"SharedFibreModel", "bursts", "()V"⟩, 41) := ⟨⟨by decide +kernel, by decide +kernel⟩, List.mem_of_getElem? (i := 560) (by decide +kernel), List.mem_of_getElem? (i := 792) (by decide +kernel), List.mem_of_getElem? (i := 793) (by decide +kernel)⟩
theorem lw_p34 : lw_okq (⟨"SharedFibreModel", "transport", "(I)I"⟩, 41) := ⟨⟨by decide +kernel, by decide +kernel⟩, List.mem_of_getElem? (i := 560) (by decide +kernel), List.mem_of_getElem? (i := 796) (by decide +kernel), List.mem_of_getElem? (i := 797) (by decide +kernel)⟩
theorem lw_p35 : lw_okq (⟨"SharedFibreModel", "sendBlock", "(I)Z"⟩, 41) := ⟨⟨by decide +kernel, by decide +kernel⟩, List.mem_of_getElem? (i := 560) (by decide +kernel), List.mem_of_getElem? (i := 800) (by decide +kernel), List.mem_of_getElem? (i := 801) (by decide +kernel)⟩
theorem lw_p36 : lw_okq (⟨"SharedFibreModel", "leave", "(I)V"⟩, 41) := ⟨⟨by decide +kernel, by decide +kernel⟩, List.mem_of_getElem? (i := 560) (by decide +kernel), List.mem_of_getElem? (i := 804) (by decide +kernel), List.mem_of_getElem? (i := 805) (by decide +kernel)⟩
theorem lw_p37 : lw_okq (⟨"SharedFibreModel", "loadOf", "(I)I"⟩, 41) := ⟨⟨by decide +kernel, by decide +kernel⟩, List.mem_of_getElem? (i := 560) (by decide +kernel), List.mem_of_getElem? (i := 808) (by decide +kernel), List.mem_of_getElem? (i := 809) (by decide +kernel)⟩
theorem lw_p38 : lw_okq (⟨"SharedFibreModel", "keys", "(I)V"⟩, 41) := ⟨⟨by decide +kernel, by decide +kernel⟩, List.mem_of_getElem? (i := 560) (by decide +kernel), List.mem_of_getElem? (i := 812) (by decide +kernel), List.mem_of_getElem? (i := 813) (by decide +kernel)⟩
def lw_privs_3 : List (MethodName × Nat) := [(⟨"SharedFibreModel", "wants", "(I)Z"⟩, 41), (⟨"SharedFibreModel", "bursts", "()V"⟩, 41), (⟨"SharedFibreModel", "transport", "(I)I"⟩, 41), (⟨"SharedFibreModel", "sendBlock", "(I)Z"⟩, 41), (⟨"SharedFibreModel", "leave", "(I)V"⟩, 41), (⟨"SharedFibreModel", "loadOf", "(I)I"⟩, 41), (⟨"SharedFibreModel", "keys", "(I)V"⟩, 41)]
theorem lw_r3 : ∀ q ∈ lw_privs_3, lw_okq q := List.forall_mem_cons.mpr ⟨lw_p32, List.forall_mem_cons.mpr ⟨lw_p33, List.forall_mem_cons.mpr ⟨lw_p34, List.forall_mem_cons.mpr ⟨lw_p35, List.forall_mem_cons.mpr ⟨lw_p36, List.forall_mem_cons.mpr ⟨lw_p37, List.forall_mem_cons.mpr ⟨lw_p38, fun _ h => absurd h List.not_mem_nil⟩⟩⟩⟩⟩⟩⟩
def lw_privs : List (MethodName × Nat) := lw_privs_1 ++ (lw_privs_2 ++ (lw_privs_3))
def lw_tbl : List Cond := k2_sels lw_privs ++ tables_1
theorem lw_privs_ok : ∀ q ∈ lw_privs, lw_okq q := by
  show ∀ q ∈ lw_privs_1 ++ (lw_privs_2 ++ (lw_privs_3)), lw_okq q
  exact List.forall_mem_append.mpr ⟨lw_r1, List.forall_mem_append.mpr ⟨lw_r2, lw_r3⟩⟩
end
section
-- printed: names, fields, word lists
def RX0 : String := "SharedFibre$Container"
def TX0 : u_T := fun k => match k with
  | 0 => ("SharedFibre$Container", "numbers", "[I", true)
  | 1 => ("SharedFibre$Container", "unsent", "[I", true)
  | 2 => ("SharedFibre$Container", "queued", "I", false)
  | 3 => ("SharedFibre$Container", "firstHurt", "Z", false)
  | 4 => ("SharedFibre$Container", "fixed", "I", false)
  | 5 => ("SharedFibre$Container", "assured", "I", false)
  | 6 => ("SharedFibre$Container", "most", "I", false)
  | 7 => ("SharedFibre$Container", "weight", "I", false)
  | 8 => ("SharedFibre$Container", "reported", "I", false)
  | 9 => ("SharedFibre$Container", "given", "I", false)
  | _ => ("SharedFibre$Container", "spare", "I", false)
def tyX0 : Nat → FieldType := fun k => match k with
  | 0 => .array .int
  | 1 => .array .int
  | 2 => .int
  | 3 => .boolean
  | 4 => .int
  | 5 => .int
  | 6 => .int
  | 7 => .int
  | 8 => .int
  | 9 => .int
  | _ => .int
abbrev wsX00 : List Cond := u_ws RX0 TX0 11
theorem nmX0 : ∀ a, a < 11 → ∀ b, b < 11 → a ≠ b → (TX0 a).2.1 ≠ (TX0 b).2.1 := by decide +kernel
theorem tyX0_ok : ∀ k, k < 11 → parseFieldDescriptor (TX0 k).2.2.1 = some (tyX0 k) := by decide +kernel
abbrev cX0_init : ByteArray := prog_2_method_1_code
def yX0_init : MethodName := ⟨RX0, "<init>", "()V"⟩
abbrev cX0_clear : ByteArray := prog_2_method_2_code
def yX0_clear : MethodName := ⟨RX0, "clear", "()V"⟩
abbrev cX0_load : ByteArray := prog_2_method_3_code
def yX0_load : MethodName := ⟨RX0, "load", "()I"⟩
abbrev cX0_append : ByteArray := prog_2_method_4_code
def yX0_append : MethodName := ⟨RX0, "append", "(II)V"⟩
abbrev cX0_sendBlock : ByteArray := prog_2_method_5_code
def yX0_sendBlock : MethodName := ⟨RX0, "sendBlock", "(Z)V"⟩
abbrev cX0_dropFirst : ByteArray := prog_2_method_6_code
def yX0_dropFirst : MethodName := ⟨RX0, "dropFirst", "()V"⟩
abbrev cX0_giveContracted : ByteArray := prog_2_method_7_code
def yX0_giveContracted : MethodName := ⟨RX0, "giveContracted", "(Z)V"⟩
abbrev cX0_wants : ByteArray := prog_2_method_8_code
def yX0_wants : MethodName := ⟨RX0, "wants", "()Z"⟩
abbrev cX0_hasLessSpareThan : ByteArray := prog_2_method_9_code
def yX0_hasLessSpareThan : MethodName := ⟨RX0, "hasLessSpareThan", "(LSharedFibre$Container;)Z"⟩
def RX1 : String := "SharedFibre$Unit"
def TX1 : u_T := fun k => match k with
  | 0 => ("SharedFibre$Unit", "containers", "[LSharedFibre$Container;", true)
  | 1 => ("SharedFibre$Unit", "state", "I", false)
  | 2 => ("SharedFibre$Unit", "serial", "I", false)
  | 3 => ("SharedFibre$Unit", "way", "I", false)
  | 4 => ("SharedFibre$Unit", "answered", "I", false)
  | 5 => ("SharedFibre$Unit", "error", "I", false)
  | 6 => ("SharedFibre$Unit", "keyInForce", "I", false)
  | 7 => ("SharedFibre$Unit", "keyWaits", "Z", false)
  | 8 => ("SharedFibre$Unit", "waitingKey", "I", false)
  | 9 => ("SharedFibre$Unit", "toldKey", "I", false)
  | 10 => ("SharedFibre$Unit", "wordWaits", "Z", false)
  | 11 => ("SharedFibre$Unit", "waitingWord", "I", false)
  | 12 => ("SharedFibre$Unit", "madeOut", "I", false)
  | 13 => ("SharedFibre$Unit", "sentAs", "I", false)
  | _ => ("SharedFibre$Unit", "spoilt", "Z", false)
def tyX1 : Nat → FieldType := fun k => match k with
  | 0 => .array (.object "SharedFibre$Container")
  | 1 => .int
  | 2 => .int
  | 3 => .int
  | 4 => .int
  | 5 => .int
  | 6 => .int
  | 7 => .boolean
  | 8 => .int
  | 9 => .int
  | 10 => .boolean
  | 11 => .int
  | 12 => .int
  | 13 => .int
  | _ => .boolean
abbrev wsX10 : List Cond := u_ws RX1 TX1 15
theorem nmX1 : ∀ a, a < 15 → ∀ b, b < 15 → a ≠ b → (TX1 a).2.1 ≠ (TX1 b).2.1 := by decide +kernel
theorem tyX1_ok : ∀ k, k < 15 → parseFieldDescriptor (TX1 k).2.2.1 = some (tyX1 k) := by decide +kernel
abbrev cX1_init : ByteArray := prog_3_method_1_code
def yX1_init : MethodName := ⟨RX1, "<init>", "()V"⟩
abbrev cX1_clear : ByteArray := prog_3_method_2_code
def yX1_clear : MethodName := ⟨RX1, "clear", "()V"⟩
abbrev cX1_answerWindow : ByteArray := prog_3_method_3_code
def yX1_answerWindow : MethodName := ⟨RX1, "answerWindow", "()I"⟩
abbrev cX1_burstLength : ByteArray := prog_3_method_4_code
def yX1_burstLength : MethodName := ⟨RX1, "burstLength", "()I"⟩
abbrev cX1_takeWord : ByteArray := prog_3_method_5_code
def yX1_takeWord : MethodName := ⟨RX1, "takeWord", "(I)V"⟩
abbrev cX1_takeKey : ByteArray := prog_3_method_6_code
def yX1_takeKey : MethodName := ⟨RX1, "takeKey", "()V"⟩
def RX2 : String := "SharedFibre"
def TX2 : u_T := fun k => match k with
  | 0 => ("SharedFibre", "units", "[LSharedFibre$Unit;", true)
  | 1 => ("SharedFibre", "cut", "[Z", true)
  | 2 => ("SharedFibre", "arrivals", "[I", true)
  | 3 => ("SharedFibre", "answersIn", "[I", true)
  | 4 => ("SharedFibre", "burstStart", "[I", true)
  | 5 => ("SharedFibre", "burstEnd", "[I", true)
  | 6 => ("SharedFibre", "active", "I", false)
  | 7 => ("SharedFibre", "darkInRow", "I", false)
  | 8 => ("SharedFibre", "quietAsked", "Z", false)
  | 9 => ("SharedFibre", "frames", "I", false)
  | 10 => ("SharedFibre", "datagrams", "I", false)
  | 11 => ("SharedFibre", "arrived", "I", false)
  | 12 => ("SharedFibre", "lost", "I", false)
  | 13 => ("SharedFibre", "met", "I", false)
  | 14 => ("SharedFibre", "notGiven", "I", false)
  | _ => ("SharedFibre", "strayed", "I", false)
def tyX2 : Nat → FieldType := fun k => match k with
  | 0 => .array (.object "SharedFibre$Unit")
  | 1 => .array .boolean
  | 2 => .array .int
  | 3 => .array .int
  | 4 => .array .int
  | 5 => .array .int
  | 6 => .int
  | 7 => .int
  | 8 => .boolean
  | 9 => .int
  | 10 => .int
  | 11 => .int
  | 12 => .int
  | 13 => .int
  | 14 => .int
  | _ => .int
abbrev wsX20 : List Cond := u_ws RX2 TX2 16
theorem nmX2 : ∀ a, a < 16 → ∀ b, b < 16 → a ≠ b → (TX2 a).2.1 ≠ (TX2 b).2.1 := by decide +kernel
theorem tyX2_ok : ∀ k, k < 16 → parseFieldDescriptor (TX2 k).2.2.1 = some (tyX2 k) := by decide +kernel
abbrev cX2_init : ByteArray := prog_1_method_1_code
def yX2_init : MethodName := ⟨RX2, "<init>", "()V"⟩
abbrev cX2_plug : ByteArray := prog_1_method_2_code
def yX2_plug : MethodName := ⟨RX2, "plug", "(II)I"⟩
abbrev cX2_unplug : ByteArray := prog_1_method_3_code
def yX2_unplug : MethodName := ⟨RX2, "unplug", "(I)V"⟩
abbrev cX2_contract : ByteArray := prog_1_method_4_code
def yX2_contract : MethodName := ⟨RX2, "contract", "(IIIIII)V"⟩
abbrev cX2_drift : ByteArray := prog_1_method_5_code
def yX2_drift : MethodName := ⟨RX2, "drift", "(II)V"⟩
abbrev cX2_send : ByteArray := prog_1_method_6_code
def yX2_send : MethodName := ⟨RX2, "send", "(III)I"⟩
abbrev cX2_key : ByteArray := prog_1_method_7_code
def yX2_key : MethodName := ⟨RX2, "key", "(II)V"⟩
abbrev cX2_down : ByteArray := prog_1_method_8_code
def yX2_down : MethodName := ⟨RX2, "down", "(II)V"⟩
abbrev cX2_spoil : ByteArray := prog_1_method_9_code
def yX2_spoil : MethodName := ⟨RX2, "spoil", "(I)V"⟩
abbrev cX2_feeder : ByteArray := prog_1_method_10_code
def yX2_feeder : MethodName := ⟨RX2, "feeder", "(IZ)V"⟩
abbrev cX2_discover : ByteArray := prog_1_method_11_code
def yX2_discover : MethodName := ⟨RX2, "discover", "()V"⟩
abbrev cX2_frame : ByteArray := prog_1_method_12_code
def yX2_frame : MethodName := ⟨RX2, "frame", "()I"⟩
abbrev cX2_unit : ByteArray := prog_1_method_13_code
def yX2_unit : MethodName := ⟨RX2, "unit", "(II)I"⟩
abbrev cX2_container : ByteArray := prog_1_method_14_code
def yX2_container : MethodName := ⟨RX2, "container", "(III)I"⟩
abbrev cX2_came : ByteArray := prog_1_method_15_code
def yX2_came : MethodName := ⟨RX2, "came", "(II)I"⟩
abbrev cX2_count : ByteArray := prog_1_method_16_code
def yX2_count : MethodName := ⟨RX2, "count", "(I)I"⟩
abbrev cX2_numbered : ByteArray := prog_1_method_17_code
def yX2_numbered : MethodName := ⟨RX2, "numbered", "(I)LSharedFibre$Unit;"⟩
abbrev cX2_plugged : ByteArray := prog_1_method_18_code
def yX2_plugged : MethodName := ⟨RX2, "plugged", "(I)LSharedFibre$Unit;"⟩
abbrev cX2_containerOf : ByteArray := prog_1_method_19_code
def yX2_containerOf : MethodName := ⟨RX2, "containerOf", "(LSharedFibre$Unit;I)LSharedFibre$Container;"⟩
abbrev cX2_pluggedContainer : ByteArray := prog_1_method_20_code
def yX2_pluggedContainer : MethodName := ⟨RX2, "pluggedContainer", "(II)LSharedFibre$Container;"⟩
abbrev cX2_hasSerial : ByteArray := prog_1_method_21_code
def yX2_hasSerial : MethodName := ⟨RX2, "hasSerial", "(I)Z"⟩
abbrev cX2_isWay : ByteArray := prog_1_method_22_code
def yX2_isWay : MethodName := ⟨RX2, "isWay", "(I)Z"⟩
abbrev cX2_firstAway : ByteArray := prog_1_method_23_code
def yX2_firstAway : MethodName := ⟨RX2, "firstAway", "()I"⟩
abbrev cX2_contracted : ByteArray := prog_1_method_24_code
def yX2_contracted : MethodName := ⟨RX2, "contracted", "()I"⟩
abbrev cX2_passDark : ByteArray := prog_1_method_25_code
def yX2_passDark : MethodName := ⟨RX2, "passDark", "()V"⟩
abbrev cX2_passQuiet : ByteArray := prog_1_method_26_code
def yX2_passQuiet : MethodName := ⟨RX2, "passQuiet", "()V"⟩
abbrev cX2_watchErrors : ByteArray := prog_1_method_27_code
def yX2_watchErrors : MethodName := ⟨RX2, "watchErrors", "()V"⟩
abbrev cX2_makeMap : ByteArray := prog_1_method_28_code
def yX2_makeMap : MethodName := ⟨RX2, "makeMap", "()V"⟩
abbrev cX2_giveSpare : ByteArray := prog_1_method_29_code
def yX2_giveSpare : MethodName := ⟨RX2, "giveSpare", "(I)I"⟩
abbrev cX2_nextToGive : ByteArray := prog_1_method_30_code
def yX2_nextToGive : MethodName := ⟨RX2, "nextToGive", "()LSharedFibre$Container;"⟩
abbrev cX2_layBursts : ByteArray := prog_1_method_31_code
def yX2_layBursts : MethodName := ⟨RX2, "layBursts", "()V"⟩
abbrev cX2_countMeetings : ByteArray := prog_1_method_32_code
def yX2_countMeetings : MethodName := ⟨RX2, "countMeetings", "()V"⟩
abbrev cX2_sendBlocks : ByteArray := prog_1_method_33_code
def yX2_sendBlocks : MethodName := ⟨RX2, "sendBlocks", "()V"⟩
abbrev cX2_sendFrom : ByteArray := prog_1_method_34_code
def yX2_sendFrom : MethodName := ⟨RX2, "sendFrom", "(LSharedFibre$Container;II)V"⟩
abbrev cX2_note : ByteArray := prog_1_method_35_code
def yX2_note : MethodName := ⟨RX2, "note", "(III)V"⟩
abbrev cX2_tellDown : ByteArray := prog_1_method_36_code
def yX2_tellDown : MethodName := ⟨RX2, "tellDown", "()V"⟩
abbrev cX2_clearSpoilt : ByteArray := prog_1_method_37_code
def yX2_clearSpoilt : MethodName := ⟨RX2, "clearSpoilt", "()V"⟩
abbrev cX2_mix : ByteArray := prog_1_method_38_code
def yX2_mix : MethodName := ⟨RX2, "mix", "(II)I"⟩
def RX3 : String := "SharedFibreModel"
def TX3 : u_T := fun k => match k with
  | 0 => ("SharedFibreModel", "thrown", "I", false)
  | 1 => ("SharedFibreModel", "state", "[I", false)
  | 2 => ("SharedFibreModel", "serial", "[I", false)
  | 3 => ("SharedFibreModel", "way", "[I", false)
  | 4 => ("SharedFibreModel", "answered", "[I", false)
  | 5 => ("SharedFibreModel", "hold", "[I", false)
  | 6 => ("SharedFibreModel", "spoilt", "[Z", false)
  | 7 => ("SharedFibreModel", "active", "I", false)
  | 8 => ("SharedFibreModel", "cut", "[Z", false)
  | 9 => ("SharedFibreModel", "dark", "I", false)
  | 10 => ("SharedFibreModel", "quiet", "Z", false)
  | 11 => ("SharedFibreModel", "frames", "I", false)
  | 12 => ("SharedFibreModel", "inForce", "[I", false)
  | 13 => ("SharedFibreModel", "waiting", "[I", false)
  | 14 => ("SharedFibreModel", "told", "[I", false)
  | 15 => ("SharedFibreModel", "hasWord", "[Z", false)
  | 16 => ("SharedFibreModel", "word", "[I", false)
  | 17 => ("SharedFibreModel", "made", "[I", false)
  | 18 => ("SharedFibreModel", "sentAs", "[I", false)
  | 19 => ("SharedFibreModel", "fixed", "[I", false)
  | 20 => ("SharedFibreModel", "assured", "[I", false)
  | 21 => ("SharedFibreModel", "most", "[I", false)
  | 22 => ("SharedFibreModel", "weight", "[I", false)
  | 23 => ("SharedFibreModel", "reported", "[I", false)
  | 24 => ("SharedFibreModel", "given", "[I", false)
  | 25 => ("SharedFibreModel", "spare", "[I", false)
  | 26 => ("SharedFibreModel", "queued", "[I", false)
  | 27 => ("SharedFibreModel", "queue", "[I", false)
  | 28 => ("SharedFibreModel", "datagrams", "I", false)
  | 29 => ("SharedFibreModel", "left", "[I", false)
  | 30 => ("SharedFibreModel", "broken", "[Z", false)
  | 31 => ("SharedFibreModel", "many", "I", false)
  | 32 => ("SharedFibreModel", "cameNumber", "[I", false)
  | 33 => ("SharedFibreModel", "cameFrom", "[I", false)
  | 34 => ("SharedFibreModel", "cameFrame", "[I", false)
  | 35 => ("SharedFibreModel", "lost", "I", false)
  | 36 => ("SharedFibreModel", "met", "I", false)
  | 37 => ("SharedFibreModel", "free", "I", false)
  | 38 => ("SharedFibreModel", "drifted", "I", false)
  | 39 => ("SharedFibreModel", "start", "[I", false)
  | _ => ("SharedFibreModel", "span", "[I", false)
def tyX3 : Nat → FieldType := fun k => match k with
  | 0 => .int
  | 1 => .array .int
  | 2 => .array .int
  | 3 => .array .int
  | 4 => .array .int
  | 5 => .array .int
  | 6 => .array .boolean
  | 7 => .int
  | 8 => .array .boolean
  | 9 => .int
  | 10 => .boolean
  | 11 => .int
  | 12 => .array .int
  | 13 => .array .int
  | 14 => .array .int
  | 15 => .array .boolean
  | 16 => .array .int
  | 17 => .array .int
  | 18 => .array .int
  | 19 => .array .int
  | 20 => .array .int
  | 21 => .array .int
  | 22 => .array .int
  | 23 => .array .int
  | 24 => .array .int
  | 25 => .array .int
  | 26 => .array .int
  | 27 => .array .int
  | 28 => .int
  | 29 => .array .int
  | 30 => .array .boolean
  | 31 => .int
  | 32 => .array .int
  | 33 => .array .int
  | 34 => .array .int
  | 35 => .int
  | 36 => .int
  | 37 => .int
  | 38 => .int
  | 39 => .array .int
  | _ => .array .int
abbrev wsX30 : List Cond := u_ws RX3 TX3 41
theorem nmX3 : ∀ a, a < 41 → ∀ b, b < 41 → a ≠ b → (TX3 a).2.1 ≠ (TX3 b).2.1 := by decide +kernel
theorem tyX3_ok : ∀ k, k < 41 → parseFieldDescriptor (TX3 k).2.2.1 = some (tyX3 k) := by decide +kernel
abbrev cX3_init : ByteArray := prog_5_method_1_code
def yX3_init : MethodName := ⟨RX3, "<init>", "()V"⟩
abbrev cX3_thrown : ByteArray := prog_5_method_2_code
def yX3_thrown : MethodName := ⟨RX3, "thrown", "()I"⟩
abbrev cX3_mix : ByteArray := prog_5_method_3_code
def yX3_mix : MethodName := ⟨RX3, "mix", "(II)I"⟩
abbrev cX3_isAway : ByteArray := prog_5_method_4_code
def yX3_isAway : MethodName := ⟨RX3, "isAway", "(I)Z"⟩
abbrev cX3_extra : ByteArray := prog_5_method_5_code
def yX3_extra : MethodName := ⟨RX3, "extra", "(I)I"⟩
abbrev cX3_errorOf : ByteArray := prog_5_method_6_code
def yX3_errorOf : MethodName := ⟨RX3, "errorOf", "(I)I"⟩
abbrev cX3_level : ByteArray := prog_5_method_7_code
def yX3_level : MethodName := ⟨RX3, "level", "(I)V"⟩
abbrev cX3_empty : ByteArray := prog_5_method_8_code
def yX3_empty : MethodName := ⟨RX3, "empty", "(I)V"⟩
abbrev cX3_plug : ByteArray := prog_5_method_9_code
def yX3_plug : MethodName := ⟨RX3, "plug", "(II)I"⟩
abbrev cX3_unplug : ByteArray := prog_5_method_10_code
def yX3_unplug : MethodName := ⟨RX3, "unplug", "(I)V"⟩
abbrev cX3_noContainer : ByteArray := prog_5_method_11_code
def yX3_noContainer : MethodName := ⟨RX3, "noContainer", "(II)Z"⟩
abbrev cX3_contract : ByteArray := prog_5_method_12_code
def yX3_contract : MethodName := ⟨RX3, "contract", "(IIIIII)V"⟩
abbrev cX3_drift : ByteArray := prog_5_method_13_code
def yX3_drift : MethodName := ⟨RX3, "drift", "(II)V"⟩
abbrev cX3_send : ByteArray := prog_5_method_14_code
def yX3_send : MethodName := ⟨RX3, "send", "(III)I"⟩
abbrev cX3_key : ByteArray := prog_5_method_15_code
def yX3_key : MethodName := ⟨RX3, "key", "(II)V"⟩
abbrev cX3_down : ByteArray := prog_5_method_16_code
def yX3_down : MethodName := ⟨RX3, "down", "(II)V"⟩
abbrev cX3_spoil : ByteArray := prog_5_method_17_code
def yX3_spoil : MethodName := ⟨RX3, "spoil", "(I)V"⟩
abbrev cX3_feeder : ByteArray := prog_5_method_18_code
def yX3_feeder : MethodName := ⟨RX3, "feeder", "(IZ)V"⟩
abbrev cX3_discover : ByteArray := prog_5_method_19_code
def yX3_discover : MethodName := ⟨RX3, "discover", "()V"⟩
abbrev cX3_darkFrame : ByteArray := prog_5_method_20_code
def yX3_darkFrame : MethodName := ⟨RX3, "darkFrame", "()V"⟩
abbrev cX3_window : ByteArray := prog_5_method_21_code
def yX3_window : MethodName := ⟨RX3, "window", "(I)I"⟩
abbrev cX3_quietFrame : ByteArray := prog_5_method_22_code
def yX3_quietFrame : MethodName := ⟨RX3, "quietFrame", "()V"⟩
abbrev cX3_look : ByteArray := prog_5_method_23_code
def yX3_look : MethodName := ⟨RX3, "look", "(I)V"⟩
abbrev cX3_wants : ByteArray := prog_5_method_24_code
def yX3_wants : MethodName := ⟨RX3, "wants", "(I)Z"⟩
abbrev cX3_map : ByteArray := prog_5_method_25_code
def yX3_map : MethodName := ⟨RX3, "map", "()V"⟩
abbrev cX3_bursts : ByteArray := prog_5_method_26_code
def yX3_bursts : MethodName := ⟨RX3, "bursts", "()V"⟩
abbrev cX3_loadOf : ByteArray := prog_5_method_27_code
def yX3_loadOf : MethodName := ⟨RX3, "loadOf", "(I)I"⟩
abbrev cX3_leave : ByteArray := prog_5_method_28_code
def yX3_leave : MethodName := ⟨RX3, "leave", "(I)V"⟩
abbrev cX3_sendBlock : ByteArray := prog_5_method_29_code
def yX3_sendBlock : MethodName := ⟨RX3, "sendBlock", "(I)Z"⟩
abbrev cX3_transport : ByteArray := prog_5_method_30_code
def yX3_transport : MethodName := ⟨RX3, "transport", "(I)I"⟩
abbrev cX3_keys : ByteArray := prog_5_method_31_code
def yX3_keys : MethodName := ⟨RX3, "keys", "(I)V"⟩
abbrev cX3_frame : ByteArray := prog_5_method_32_code
def yX3_frame : MethodName := ⟨RX3, "frame", "()I"⟩
abbrev cX3_unit : ByteArray := prog_5_method_33_code
def yX3_unit : MethodName := ⟨RX3, "unit", "(II)I"⟩
abbrev cX3_container : ByteArray := prog_5_method_34_code
def yX3_container : MethodName := ⟨RX3, "container", "(III)I"⟩
abbrev cX3_came : ByteArray := prog_5_method_35_code
def yX3_came : MethodName := ⟨RX3, "came", "(II)I"⟩
abbrev cX3_count : ByteArray := prog_5_method_36_code
def yX3_count : MethodName := ⟨RX3, "count", "(I)I"⟩
def RJ9 : String := "java/lang/Math"
def TJ9 : u_T := fun k => match k with
  | _ => ("", "", "", false)
def tyJ9 : Nat → FieldType := fun k => match k with
  | _ => .int
abbrev wsJ90 : List Cond := u_ws RJ9 TJ9 0
theorem nmJ9 : ∀ a, a < 0 → ∀ b, b < 0 → a ≠ b → (TJ9 a).2.1 ≠ (TJ9 b).2.1 := by decide +kernel
theorem tyJ9_ok : ∀ k, k < 0 → parseFieldDescriptor (TJ9 k).2.2.1 = some (tyJ9 k) := by decide +kernel
abbrev cJ9_abs_0f7a4 : ByteArray := prog_10_method_59_code
def yJ9_abs_0f7a4 : MethodName := ⟨RJ9, "abs", "(I)I"⟩
abbrev cJ9_max_7cf53 : ByteArray := prog_10_method_65_code
def yJ9_max_7cf53 : MethodName := ⟨RJ9, "max", "(II)I"⟩
abbrev cJ9_min_7cf53 : ByteArray := prog_10_method_69_code
def yJ9_min_7cf53 : MethodName := ⟨RJ9, "min", "(II)I"⟩
def RJ0 : String := "java/lang/String"
def TJ0 : u_T := fun k => match k with
  | _ => ("", "", "", false)
def tyJ0 : Nat → FieldType := fun k => match k with
  | _ => .int
abbrev wsJ00 : List Cond := u_ws RJ0 TJ0 0
theorem nmJ0 : ∀ a, a < 0 → ∀ b, b < 0 → a ≠ b → (TJ0 a).2.1 ≠ (TJ0 b).2.1 := by decide +kernel
theorem tyJ0_ok : ∀ k, k < 0 → parseFieldDescriptor (TJ0 k).2.2.1 = some (tyJ0 k) := by decide +kernel
def RL : String := "SharedFibreLaw"
abbrev cL_plug : ByteArray := method_3_code
def yL_plug : MethodName := ⟨RL, "plug", "(LSharedFibre;II[J)I"⟩
abbrev cL_unplug : ByteArray := method_4_code
def yL_unplug : MethodName := ⟨RL, "unplug", "(LSharedFibre;I)I"⟩
abbrev cL_contract : ByteArray := method_5_code
def yL_contract : MethodName := ⟨RL, "contract", "(LSharedFibre;IIIIII)I"⟩
abbrev cL_drift : ByteArray := method_6_code
def yL_drift : MethodName := ⟨RL, "drift", "(LSharedFibre;II)I"⟩
abbrev cL_send : ByteArray := method_7_code
def yL_send : MethodName := ⟨RL, "send", "(LSharedFibre;III[J)I"⟩
abbrev cL_key : ByteArray := method_8_code
def yL_key : MethodName := ⟨RL, "key", "(LSharedFibre;II)I"⟩
abbrev cL_down : ByteArray := method_9_code
def yL_down : MethodName := ⟨RL, "down", "(LSharedFibre;II)I"⟩
abbrev cL_spoil : ByteArray := method_10_code
def yL_spoil : MethodName := ⟨RL, "spoil", "(LSharedFibre;I)I"⟩
abbrev cL_feeder : ByteArray := method_11_code
def yL_feeder : MethodName := ⟨RL, "feeder", "(LSharedFibre;IZ)I"⟩
abbrev cL_unit : ByteArray := method_12_code
def yL_unit : MethodName := ⟨RL, "unit", "(LSharedFibre;II[J)I"⟩
abbrev cL_container : ByteArray := method_13_code
def yL_container : MethodName := ⟨RL, "container", "(LSharedFibre;III[J)I"⟩
abbrev cL_came : ByteArray := method_14_code
def yL_came : MethodName := ⟨RL, "came", "(LSharedFibre;II[J)I"⟩
abbrev cL_count : ByteArray := method_15_code
def yL_count : MethodName := ⟨RL, "count", "(LSharedFibre;I[J)I"⟩
abbrev cL_law : ByteArray := code
def yL_law : MethodName := ⟨RL, "law", "([I)Z"⟩
def wsX0_init : List Cond := .code yX0_init cX0_init 1 none :: ([.methodLink RX0 3 objectInit, .instanceMethod objectInit, .code objectInit ⟨#[0xb1]⟩ 1 none, .arrayClass .int, .fieldLink RX0 9 "SharedFibre$Container" "numbers" "[I", .fieldLink RX0 15 "SharedFibre$Container" "unsent" "[I", .fieldLink RX0 18 "SharedFibre$Container" "weight" "I"] ++ wsX00)
def wsX0_clear : List Cond := .code yX0_clear cX0_clear 1 none :: ([.fieldLink RX0 22 "SharedFibre$Container" "queued" "I", .fieldLink RX0 25 "SharedFibre$Container" "firstHurt" "Z", .fieldLink RX0 29 "SharedFibre$Container" "fixed" "I", .fieldLink RX0 32 "SharedFibre$Container" "assured" "I", .fieldLink RX0 35 "SharedFibre$Container" "most" "I", .fieldLink RX0 18 "SharedFibre$Container" "weight" "I", .fieldLink RX0 38 "SharedFibre$Container" "reported" "I", .fieldLink RX0 41 "SharedFibre$Container" "given" "I", .fieldLink RX0 44 "SharedFibre$Container" "spare" "I"] ++ wsX00)
def wsX0_load : List Cond := .code yX0_load cX0_load 3 (some .int) :: ([.fieldLink RX0 22 "SharedFibre$Container" "queued" "I", .fieldLink RX0 15 "SharedFibre$Container" "unsent" "[I"] ++ wsX00)
def wsX0_append : List Cond := .code yX0_append cX0_append 3 none :: ([.fieldLink RX0 9 "SharedFibre$Container" "numbers" "[I", .fieldLink RX0 22 "SharedFibre$Container" "queued" "I", .fieldLink RX0 15 "SharedFibre$Container" "unsent" "[I"] ++ wsX00)
def wsX0_sendBlock : List Cond := .code yX0_sendBlock cX0_sendBlock 2 none :: ([.fieldLink RX0 15 "SharedFibre$Container" "unsent" "[I", .fieldLink RX0 25 "SharedFibre$Container" "firstHurt" "Z"] ++ wsX00)
def wsX0_dropFirst : List Cond := .code yX0_dropFirst cX0_dropFirst 2 none :: ([.fieldLink RX0 22 "SharedFibre$Container" "queued" "I", .fieldLink RX0 9 "SharedFibre$Container" "numbers" "[I", .fieldLink RX0 15 "SharedFibre$Container" "unsent" "[I", .fieldLink RX0 25 "SharedFibre$Container" "firstHurt" "Z"] ++ wsX00)
def wsX0_giveContracted : List Cond := .code yX0_giveContracted cX0_giveContracted 2 none :: ([.fieldLink RX0 44 "SharedFibre$Container" "spare" "I", .fieldLink RX0 29 "SharedFibre$Container" "fixed" "I", .fieldLink RX0 32 "SharedFibre$Container" "assured" "I", .fieldLink RX0 38 "SharedFibre$Container" "reported" "I", .methodLink RX0 47 Lib.Math.max.name, .static Lib.Math.max.name, .initialized "java/lang/Math", .code Lib.Math.max.name Lib.Math.max.code 2 (some .int), .methodLink RX0 53 Lib.Math.min.name, .static Lib.Math.min.name, .code Lib.Math.min.name Lib.Math.min.code 2 (some .int), .fieldLink RX0 41 "SharedFibre$Container" "given" "I"] ++ wsX00)
def wsX0_wants : List Cond := .code yX0_wants cX0_wants 1 (some .boolean) :: ([.fieldLink RX0 41 "SharedFibre$Container" "given" "I", .fieldLink RX0 35 "SharedFibre$Container" "most" "I", .fieldLink RX0 38 "SharedFibre$Container" "reported" "I"] ++ wsX00)
def wsX0_hasLessSpareThan : List Cond := .code yX0_hasLessSpareThan cX0_hasLessSpareThan 2 (some .boolean) :: ([.fieldLink RX0 44 "SharedFibre$Container" "spare" "I", .fieldLink RX0 18 "SharedFibre$Container" "weight" "I"] ++ wsX00)
def wsX1_init : List Cond := .code yX1_init cX1_init 2 none :: ([.methodLink RX1 3 objectInit, .instanceMethod objectInit, .code objectInit ⟨#[0xb1]⟩ 1 none, .classLink RX1 9 RX0, .fieldLink RX1 11 "SharedFibre$Unit" "containers" "[LSharedFibre$Container;", .instantiable RX0 11, .initialized RX0, .instanceMethod yX0_init, .code yX0_init cX0_init 1 none, .methodLink RX0 3 objectInit, .arrayClass .int, .fieldLink RX0 9 "SharedFibre$Container" "numbers" "[I", .fieldLink RX0 15 "SharedFibre$Container" "unsent" "[I", .fieldLink RX0 18 "SharedFibre$Container" "weight" "I"] ++ wsX10 ++ wsX00)
def wsX1_clear_r1 : List Cond := [Cond.fieldLink RX1 18 "SharedFibre$Unit" "state" "I", Cond.fieldLink RX1 22 "SharedFibre$Unit" "serial" "I", Cond.fieldLink RX1 25 "SharedFibre$Unit" "way" "I", Cond.fieldLink RX1 28 "SharedFibre$Unit" "answered" "I", Cond.fieldLink RX1 31 "SharedFibre$Unit" "error" "I", Cond.fieldLink RX1 34 "SharedFibre$Unit" "keyInForce" "I", Cond.fieldLink RX1 37 "SharedFibre$Unit" "keyWaits" "Z", Cond.fieldLink RX1 41 "SharedFibre$Unit" "waitingKey" "I", Cond.fieldLink RX1 44 "SharedFibre$Unit" "toldKey" "I", Cond.fieldLink RX1 47 "SharedFibre$Unit" "wordWaits" "Z", Cond.fieldLink RX1 50 "SharedFibre$Unit" "waitingWord" "I", Cond.fieldLink RX1 53 "SharedFibre$Unit" "madeOut" "I", Cond.fieldLink RX1 56 "SharedFibre$Unit" "sentAs" "I", Cond.fieldLink RX1 59 "SharedFibre$Unit" "spoilt" "Z", Cond.fieldLink RX1 11 "SharedFibre$Unit" "containers" "[LSharedFibre$Container;", Cond.methodLink RX1 62 yX0_clear, Cond.instanceMethod yX0_clear, Cond.selects RX0 yX0_clear yX0_clear, Cond.initialized RX0, Cond.code yX0_clear cX0_clear 1 none, Cond.fieldLink RX0 22 "SharedFibre$Container" "queued" "I", Cond.fieldLink RX0 25 "SharedFibre$Container" "firstHurt" "Z", Cond.fieldLink RX0 29 "SharedFibre$Container" "fixed" "I", Cond.fieldLink RX0 32 "SharedFibre$Container" "assured" "I"]
def wsX1_clear_r2 : List Cond := [Cond.fieldLink RX0 35 "SharedFibre$Container" "most" "I", Cond.fieldLink RX0 18 "SharedFibre$Container" "weight" "I", Cond.fieldLink RX0 38 "SharedFibre$Container" "reported" "I", Cond.fieldLink RX0 41 "SharedFibre$Container" "given" "I", Cond.fieldLink RX0 44 "SharedFibre$Container" "spare" "I"]
def wsX1_clear : List Cond := .code yX1_clear cX1_clear 5 none :: ((wsX1_clear_r1 ++ wsX1_clear_r2) ++ wsX10 ++ wsX00)
def wsX2_mix : List Cond := .code yX2_mix cX2_mix 3 (some .int) :: ([.constant RX2 315 (625341585), .constant RX2 316 (-1640531535)])
def wsX1_answerWindow : List Cond := .code yX1_answerWindow cX1_answerWindow 1 (some .int) :: ([.fieldLink RX1 22 "SharedFibre$Unit" "serial" "I", .fieldLink RX1 28 "SharedFibre$Unit" "answered" "I", .static yX2_mix, .initialized RX2, .code yX2_mix cX2_mix 3 (some .int), .constant RX2 315 (625341585), .constant RX2 316 (-1640531535)] ++ wsX10)
def wsX1_burstLength : List Cond := .code yX1_burstLength cX1_burstLength 6 (some .int) :: ([.fieldLink RX1 11 "SharedFibre$Unit" "containers" "[LSharedFibre$Container;", .fieldLink RX1 69 "SharedFibre$Container" "given" "I"] ++ wsX10 ++ wsX00)
def wsX1_takeWord : List Cond := .code yX1_takeWord cX1_takeWord 3 none :: ([.fieldLink RX1 47 "SharedFibre$Unit" "wordWaits" "Z", .fieldLink RX1 34 "SharedFibre$Unit" "keyInForce" "I", .fieldLink RX1 50 "SharedFibre$Unit" "waitingWord" "I", .fieldLink RX1 56 "SharedFibre$Unit" "sentAs" "I", .fieldLink RX1 53 "SharedFibre$Unit" "madeOut" "I", .static yX2_mix, .initialized RX2, .code yX2_mix cX2_mix 3 (some .int), .constant RX2 315 (625341585), .constant RX2 316 (-1640531535)] ++ wsX10)
def wsX1_takeKey : List Cond := .code yX1_takeKey cX1_takeKey 1 none :: ([.fieldLink RX1 37 "SharedFibre$Unit" "keyWaits" "Z", .fieldLink RX1 41 "SharedFibre$Unit" "waitingKey" "I", .fieldLink RX1 44 "SharedFibre$Unit" "toldKey" "I", .fieldLink RX1 59 "SharedFibre$Unit" "spoilt" "Z", .fieldLink RX1 34 "SharedFibre$Unit" "keyInForce" "I"] ++ wsX10)
def wsX2_init_r1 : List Cond := [Cond.methodLink RX2 1 objectInit, Cond.instanceMethod objectInit, Cond.code objectInit ⟨#[0xb1]⟩ 1 none, Cond.classLink RX2 9 RX1, Cond.fieldLink RX2 11 "SharedFibre" "units" "[LSharedFibre$Unit;", Cond.arrayClass .boolean, Cond.fieldLink RX2 15 "SharedFibre" "cut" "[Z", Cond.arrayClass .int, Cond.fieldLink RX2 19 "SharedFibre" "arrivals" "[I", Cond.fieldLink RX2 23 "SharedFibre" "answersIn" "[I", Cond.fieldLink RX2 26 "SharedFibre" "burstStart" "[I", Cond.fieldLink RX2 29 "SharedFibre" "burstEnd" "[I", Cond.instantiable RX1 15, Cond.initialized RX1, Cond.methodLink RX2 32 yX1_init, Cond.instanceMethod yX1_init, Cond.code yX1_init cX1_init 2 none, Cond.methodLink RX1 3 objectInit, Cond.classLink RX1 9 RX0, Cond.fieldLink RX1 11 "SharedFibre$Unit" "containers" "[LSharedFibre$Container;", Cond.instantiable RX0 11, Cond.initialized RX0, Cond.instanceMethod yX0_init, Cond.code yX0_init cX0_init 1 none]
def wsX2_init_r2 : List Cond := [Cond.methodLink RX0 3 objectInit, Cond.fieldLink RX0 9 "SharedFibre$Container" "numbers" "[I", Cond.fieldLink RX0 15 "SharedFibre$Container" "unsent" "[I", Cond.fieldLink RX0 18 "SharedFibre$Container" "weight" "I"]
def wsX2_init : List Cond := .code yX2_init cX2_init 2 none :: ((wsX2_init_r1 ++ wsX2_init_r2) ++ wsX20 ++ wsX10 ++ wsX00)
def wsX2_hasSerial : List Cond := .code yX2_hasSerial cX2_hasSerial 6 (some .boolean) :: ([.fieldLink RX2 11 "SharedFibre" "units" "[LSharedFibre$Unit;", .fieldLink RX2 58 "SharedFibre$Unit" "state" "I", .fieldLink RX2 62 "SharedFibre$Unit" "serial" "I"] ++ wsX20 ++ wsX10)
def wsX2_isWay : List Cond := .code yX2_isWay cX2_isWay 1 (some .boolean) :: ([])
def wsX2_firstAway : List Cond := .code yX2_firstAway cX2_firstAway 2 (some .int) :: ([.fieldLink RX2 11 "SharedFibre" "units" "[LSharedFibre$Unit;", .fieldLink RX2 58 "SharedFibre$Unit" "state" "I"] ++ wsX20 ++ wsX10)
def wsX2_plug : List Cond := .code yX2_plug cX2_plug 5 (some .int) :: ([.classLink RX2 37 "java/lang/IllegalArgumentException", .initialized "java/lang/IllegalArgumentException", .classLink RX2 53 "java/lang/IllegalStateException", .initialized "java/lang/IllegalStateException", .fieldLink RX2 11 "SharedFibre" "units" "[LSharedFibre$Unit;", .fieldLink RX2 58 "SharedFibre$Unit" "state" "I", .fieldLink RX2 62 "SharedFibre$Unit" "serial" "I", .fieldLink RX2 64 "SharedFibre$Unit" "way" "I", .methodLink RX2 33 yX2_hasSerial, .instanceMethod yX2_hasSerial, .selects RX2 yX2_hasSerial yX2_hasSerial, .initialized RX2, .code yX2_hasSerial cX2_hasSerial 6 (some .boolean), .methodLink RX2 44 yX2_isWay, .static yX2_isWay, .code yX2_isWay cX2_isWay 1 (some .boolean), .methodLink RX2 49 yX2_firstAway, .instanceMethod yX2_firstAway, .selects RX2 yX2_firstAway yX2_firstAway, .code yX2_firstAway cX2_firstAway 2 (some .int)] ++ wsX20 ++ wsX10 ++ (vx_atS RX2 41 "java/lang/IllegalArgumentException" ["java/lang/RuntimeException", "java/lang/Exception"]).filter goodWord ++ (vx_atS RX2 57 "java/lang/IllegalStateException" ["java/lang/RuntimeException", "java/lang/Exception"]).filter goodWord)
def wsX2_numbered : List Cond := .code yX2_numbered cX2_numbered 2 (some (.object "SharedFibre$Unit")) :: ([.classLink RX2 37 "java/lang/IllegalArgumentException", .initialized "java/lang/IllegalArgumentException", .fieldLink RX2 11 "SharedFibre" "units" "[LSharedFibre$Unit;"] ++ wsX20 ++ (vx_atS RX2 41 "java/lang/IllegalArgumentException" ["java/lang/RuntimeException", "java/lang/Exception"]).filter goodWord)
def wsX2_plugged : List Cond := .code yX2_plugged cX2_plugged 3 (some (.object "SharedFibre$Unit")) :: ([.classLink RX2 37 "java/lang/IllegalArgumentException", .initialized "java/lang/IllegalArgumentException", .fieldLink RX2 58 "SharedFibre$Unit" "state" "I", .methodLink RX2 182 yX2_numbered, .instanceMethod yX2_numbered, .selects RX2 yX2_numbered yX2_numbered, .initialized RX2, .code yX2_numbered cX2_numbered 2 (some (.object "SharedFibre$Unit")), .fieldLink RX2 11 "SharedFibre" "units" "[LSharedFibre$Unit;"] ++ wsX10 ++ wsX20 ++ (vx_atS RX2 41 "java/lang/IllegalArgumentException" ["java/lang/RuntimeException", "java/lang/Exception"]).filter goodWord)
def wsX2_unplug_r1 : List Cond := [Cond.methodLink RX2 66 yX2_plugged, Cond.instanceMethod yX2_plugged, Cond.selects RX2 yX2_plugged yX2_plugged, Cond.initialized RX2, Cond.code yX2_plugged cX2_plugged 3 (some (.object "SharedFibre$Unit")), Cond.classLink RX2 37 "java/lang/IllegalArgumentException", Cond.initialized "java/lang/IllegalArgumentException", Cond.fieldLink RX2 58 "SharedFibre$Unit" "state" "I", Cond.methodLink RX2 182 yX2_numbered, Cond.instanceMethod yX2_numbered, Cond.selects RX2 yX2_numbered yX2_numbered, Cond.code yX2_numbered cX2_numbered 2 (some (.object "SharedFibre$Unit")), Cond.fieldLink RX2 11 "SharedFibre" "units" "[LSharedFibre$Unit;", Cond.methodLink RX2 70 yX1_clear, Cond.instanceMethod yX1_clear, Cond.selects RX1 yX1_clear yX1_clear, Cond.initialized RX1, Cond.code yX1_clear cX1_clear 5 none, Cond.fieldLink RX1 18 "SharedFibre$Unit" "state" "I", Cond.fieldLink RX1 22 "SharedFibre$Unit" "serial" "I", Cond.fieldLink RX1 25 "SharedFibre$Unit" "way" "I", Cond.fieldLink RX1 28 "SharedFibre$Unit" "answered" "I", Cond.fieldLink RX1 31 "SharedFibre$Unit" "error" "I", Cond.fieldLink RX1 34 "SharedFibre$Unit" "keyInForce" "I"]
def wsX2_unplug_r2 : List Cond := [Cond.fieldLink RX1 37 "SharedFibre$Unit" "keyWaits" "Z", Cond.fieldLink RX1 41 "SharedFibre$Unit" "waitingKey" "I", Cond.fieldLink RX1 44 "SharedFibre$Unit" "toldKey" "I", Cond.fieldLink RX1 47 "SharedFibre$Unit" "wordWaits" "Z", Cond.fieldLink RX1 50 "SharedFibre$Unit" "waitingWord" "I", Cond.fieldLink RX1 53 "SharedFibre$Unit" "madeOut" "I", Cond.fieldLink RX1 56 "SharedFibre$Unit" "sentAs" "I", Cond.fieldLink RX1 59 "SharedFibre$Unit" "spoilt" "Z", Cond.fieldLink RX1 11 "SharedFibre$Unit" "containers" "[LSharedFibre$Container;", Cond.methodLink RX1 62 yX0_clear, Cond.instanceMethod yX0_clear, Cond.selects RX0 yX0_clear yX0_clear, Cond.initialized RX0, Cond.code yX0_clear cX0_clear 1 none, Cond.fieldLink RX0 22 "SharedFibre$Container" "queued" "I", Cond.fieldLink RX0 25 "SharedFibre$Container" "firstHurt" "Z", Cond.fieldLink RX0 29 "SharedFibre$Container" "fixed" "I", Cond.fieldLink RX0 32 "SharedFibre$Container" "assured" "I", Cond.fieldLink RX0 35 "SharedFibre$Container" "most" "I", Cond.fieldLink RX0 18 "SharedFibre$Container" "weight" "I", Cond.fieldLink RX0 38 "SharedFibre$Container" "reported" "I", Cond.fieldLink RX0 41 "SharedFibre$Container" "given" "I", Cond.fieldLink RX0 44 "SharedFibre$Container" "spare" "I"]
def wsX2_unplug : List Cond := .code yX2_unplug cX2_unplug 2 none :: ((wsX2_unplug_r1 ++ wsX2_unplug_r2) ++ wsX10 ++ wsX20 ++ wsX00 ++ (vx_atS RX2 41 "java/lang/IllegalArgumentException" ["java/lang/RuntimeException", "java/lang/Exception"]).filter goodWord)
def wsX2_containerOf : List Cond := .code yX2_containerOf cX2_containerOf 2 (some (.object "SharedFibre$Container")) :: ([.classLink RX2 37 "java/lang/IllegalArgumentException", .initialized "java/lang/IllegalArgumentException", .fieldLink RX2 240 "SharedFibre$Unit" "containers" "[LSharedFibre$Container;"] ++ wsX10 ++ (vx_atS RX2 41 "java/lang/IllegalArgumentException" ["java/lang/RuntimeException", "java/lang/Exception"]).filter goodWord)
def wsX2_pluggedContainer : List Cond := .code yX2_pluggedContainer cX2_pluggedContainer 3 (some (.object "SharedFibre$Container")) :: ([.methodLink RX2 66 yX2_plugged, .instanceMethod yX2_plugged, .selects RX2 yX2_plugged yX2_plugged, .initialized RX2, .code yX2_plugged cX2_plugged 3 (some (.object "SharedFibre$Unit")), .classLink RX2 37 "java/lang/IllegalArgumentException", .initialized "java/lang/IllegalArgumentException", .fieldLink RX2 58 "SharedFibre$Unit" "state" "I", .methodLink RX2 182 yX2_numbered, .instanceMethod yX2_numbered, .selects RX2 yX2_numbered yX2_numbered, .code yX2_numbered cX2_numbered 2 (some (.object "SharedFibre$Unit")), .fieldLink RX2 11 "SharedFibre" "units" "[LSharedFibre$Unit;", .methodLink RX2 202 yX2_containerOf, .static yX2_containerOf, .code yX2_containerOf cX2_containerOf 2 (some (.object "SharedFibre$Container")), .fieldLink RX2 240 "SharedFibre$Unit" "containers" "[LSharedFibre$Container;"] ++ wsX10 ++ wsX20 ++ (vx_atS RX2 41 "java/lang/IllegalArgumentException" ["java/lang/RuntimeException", "java/lang/Exception"]).filter goodWord)
def wsX2_contracted : List Cond := .code yX2_contracted cX2_contracted 10 (some .int) :: ([.fieldLink RX2 11 "SharedFibre" "units" "[LSharedFibre$Unit;", .fieldLink RX2 240 "SharedFibre$Unit" "containers" "[LSharedFibre$Container;", .fieldLink RX2 84 "SharedFibre$Container" "fixed" "I", .fieldLink RX2 89 "SharedFibre$Container" "assured" "I"] ++ wsX20 ++ wsX10 ++ wsX00)
def wsX2_contract_r1 : List Cond := [Cond.classLink RX2 37 "java/lang/IllegalArgumentException", Cond.initialized "java/lang/IllegalArgumentException", Cond.classLink RX2 53 "java/lang/IllegalStateException", Cond.initialized "java/lang/IllegalStateException", Cond.fieldLink RX2 84 "SharedFibre$Container" "fixed" "I", Cond.fieldLink RX2 89 "SharedFibre$Container" "assured" "I", Cond.fieldLink RX2 94 "SharedFibre$Container" "most" "I", Cond.fieldLink RX2 97 "SharedFibre$Container" "weight" "I", Cond.methodLink RX2 73 yX2_pluggedContainer, Cond.instanceMethod yX2_pluggedContainer, Cond.selects RX2 yX2_pluggedContainer yX2_pluggedContainer, Cond.initialized RX2, Cond.code yX2_pluggedContainer cX2_pluggedContainer 3 (some (.object "SharedFibre$Container")), Cond.methodLink RX2 66 yX2_plugged, Cond.instanceMethod yX2_plugged, Cond.selects RX2 yX2_plugged yX2_plugged, Cond.code yX2_plugged cX2_plugged 3 (some (.object "SharedFibre$Unit")), Cond.fieldLink RX2 58 "SharedFibre$Unit" "state" "I", Cond.methodLink RX2 182 yX2_numbered, Cond.instanceMethod yX2_numbered, Cond.selects RX2 yX2_numbered yX2_numbered, Cond.code yX2_numbered cX2_numbered 2 (some (.object "SharedFibre$Unit")), Cond.fieldLink RX2 11 "SharedFibre" "units" "[LSharedFibre$Unit;", Cond.methodLink RX2 202 yX2_containerOf]
def wsX2_contract_r2 : List Cond := [Cond.static yX2_containerOf, Cond.code yX2_containerOf cX2_containerOf 2 (some (.object "SharedFibre$Container")), Cond.fieldLink RX2 240 "SharedFibre$Unit" "containers" "[LSharedFibre$Container;", Cond.methodLink RX2 81 yX2_contracted, Cond.instanceMethod yX2_contracted, Cond.selects RX2 yX2_contracted yX2_contracted, Cond.code yX2_contracted cX2_contracted 10 (some .int)]
def wsX2_contract : List Cond := .code yX2_contract cX2_contract 8 none :: ((wsX2_contract_r1 ++ wsX2_contract_r2) ++ wsX00 ++ wsX10 ++ wsX20 ++ (vx_atS RX2 41 "java/lang/IllegalArgumentException" ["java/lang/RuntimeException", "java/lang/Exception"]).filter goodWord ++ (vx_atS RX2 57 "java/lang/IllegalStateException" ["java/lang/RuntimeException", "java/lang/Exception"]).filter goodWord)
def wsX2_drift : List Cond := .code yX2_drift cX2_drift 4 none :: ([.classLink RX2 37 "java/lang/IllegalArgumentException", .initialized "java/lang/IllegalArgumentException", .fieldLink RX2 64 "SharedFibre$Unit" "way" "I", .fieldLink RX2 58 "SharedFibre$Unit" "state" "I", .fieldLink RX2 101 "SharedFibre$Unit" "error" "I", .methodLink RX2 66 yX2_plugged, .instanceMethod yX2_plugged, .selects RX2 yX2_plugged yX2_plugged, .initialized RX2, .code yX2_plugged cX2_plugged 3 (some (.object "SharedFibre$Unit")), .methodLink RX2 182 yX2_numbered, .instanceMethod yX2_numbered, .selects RX2 yX2_numbered yX2_numbered, .code yX2_numbered cX2_numbered 2 (some (.object "SharedFibre$Unit")), .fieldLink RX2 11 "SharedFibre" "units" "[LSharedFibre$Unit;", .methodLink RX2 44 yX2_isWay, .static yX2_isWay, .code yX2_isWay cX2_isWay 1 (some .boolean)] ++ wsX10 ++ wsX20 ++ (vx_atS RX2 41 "java/lang/IllegalArgumentException" ["java/lang/RuntimeException", "java/lang/Exception"]).filter goodWord)
def wsX2_send_r1 : List Cond := [Cond.classLink RX2 37 "java/lang/IllegalArgumentException", Cond.initialized "java/lang/IllegalArgumentException", Cond.classLink RX2 53 "java/lang/IllegalStateException", Cond.initialized "java/lang/IllegalStateException", Cond.fieldLink RX2 106 "SharedFibre$Container" "queued" "I", Cond.fieldLink RX2 109 "SharedFibre" "datagrams" "I", Cond.methodLink RX2 73 yX2_pluggedContainer, Cond.instanceMethod yX2_pluggedContainer, Cond.selects RX2 yX2_pluggedContainer yX2_pluggedContainer, Cond.initialized RX2, Cond.code yX2_pluggedContainer cX2_pluggedContainer 3 (some (.object "SharedFibre$Container")), Cond.methodLink RX2 66 yX2_plugged, Cond.instanceMethod yX2_plugged, Cond.selects RX2 yX2_plugged yX2_plugged, Cond.code yX2_plugged cX2_plugged 3 (some (.object "SharedFibre$Unit")), Cond.fieldLink RX2 58 "SharedFibre$Unit" "state" "I", Cond.methodLink RX2 182 yX2_numbered, Cond.instanceMethod yX2_numbered, Cond.selects RX2 yX2_numbered yX2_numbered, Cond.code yX2_numbered cX2_numbered 2 (some (.object "SharedFibre$Unit")), Cond.fieldLink RX2 11 "SharedFibre" "units" "[LSharedFibre$Unit;", Cond.methodLink RX2 202 yX2_containerOf, Cond.static yX2_containerOf, Cond.code yX2_containerOf cX2_containerOf 2 (some (.object "SharedFibre$Container"))]
def wsX2_send_r2 : List Cond := [Cond.fieldLink RX2 240 "SharedFibre$Unit" "containers" "[LSharedFibre$Container;", Cond.methodLink RX2 114 yX0_append, Cond.instanceMethod yX0_append, Cond.selects RX0 yX0_append yX0_append, Cond.initialized RX0, Cond.code yX0_append cX0_append 3 none, Cond.fieldLink RX0 9 "SharedFibre$Container" "numbers" "[I", Cond.fieldLink RX0 22 "SharedFibre$Container" "queued" "I", Cond.fieldLink RX0 15 "SharedFibre$Container" "unsent" "[I"]
def wsX2_send : List Cond := .code yX2_send cX2_send 5 (some .int) :: ((wsX2_send_r1 ++ wsX2_send_r2) ++ wsX00 ++ wsX20 ++ wsX10 ++ (vx_atS RX2 41 "java/lang/IllegalArgumentException" ["java/lang/RuntimeException", "java/lang/Exception"]).filter goodWord ++ (vx_atS RX2 57 "java/lang/IllegalStateException" ["java/lang/RuntimeException", "java/lang/Exception"]).filter goodWord)
def wsX2_key : List Cond := .code yX2_key cX2_key 4 none :: ([.classLink RX2 37 "java/lang/IllegalArgumentException", .initialized "java/lang/IllegalArgumentException", .classLink RX2 53 "java/lang/IllegalStateException", .initialized "java/lang/IllegalStateException", .fieldLink RX2 120 "SharedFibre$Unit" "keyWaits" "Z", .fieldLink RX2 126 "SharedFibre$Unit" "waitingKey" "I", .methodLink RX2 66 yX2_plugged, .instanceMethod yX2_plugged, .selects RX2 yX2_plugged yX2_plugged, .initialized RX2, .code yX2_plugged cX2_plugged 3 (some (.object "SharedFibre$Unit")), .fieldLink RX2 58 "SharedFibre$Unit" "state" "I", .methodLink RX2 182 yX2_numbered, .instanceMethod yX2_numbered, .selects RX2 yX2_numbered yX2_numbered, .code yX2_numbered cX2_numbered 2 (some (.object "SharedFibre$Unit")), .fieldLink RX2 11 "SharedFibre" "units" "[LSharedFibre$Unit;"] ++ wsX10 ++ wsX20 ++ (vx_atS RX2 41 "java/lang/IllegalArgumentException" ["java/lang/RuntimeException", "java/lang/Exception"]).filter goodWord ++ (vx_atS RX2 57 "java/lang/IllegalStateException" ["java/lang/RuntimeException", "java/lang/Exception"]).filter goodWord)
def wsX2_down : List Cond := .code yX2_down cX2_down 4 none :: ([.fieldLink RX2 129 "SharedFibre$Unit" "wordWaits" "Z", .fieldLink RX2 132 "SharedFibre$Unit" "waitingWord" "I", .methodLink RX2 66 yX2_plugged, .instanceMethod yX2_plugged, .selects RX2 yX2_plugged yX2_plugged, .initialized RX2, .code yX2_plugged cX2_plugged 3 (some (.object "SharedFibre$Unit")), .classLink RX2 37 "java/lang/IllegalArgumentException", .initialized "java/lang/IllegalArgumentException", .fieldLink RX2 58 "SharedFibre$Unit" "state" "I", .methodLink RX2 182 yX2_numbered, .instanceMethod yX2_numbered, .selects RX2 yX2_numbered yX2_numbered, .code yX2_numbered cX2_numbered 2 (some (.object "SharedFibre$Unit")), .fieldLink RX2 11 "SharedFibre" "units" "[LSharedFibre$Unit;"] ++ wsX10 ++ wsX20 ++ (vx_atS RX2 41 "java/lang/IllegalArgumentException" ["java/lang/RuntimeException", "java/lang/Exception"]).filter goodWord)
def wsX2_spoil : List Cond := .code yX2_spoil cX2_spoil 2 none :: ([.fieldLink RX2 135 "SharedFibre$Unit" "spoilt" "Z", .methodLink RX2 66 yX2_plugged, .instanceMethod yX2_plugged, .selects RX2 yX2_plugged yX2_plugged, .initialized RX2, .code yX2_plugged cX2_plugged 3 (some (.object "SharedFibre$Unit")), .classLink RX2 37 "java/lang/IllegalArgumentException", .initialized "java/lang/IllegalArgumentException", .fieldLink RX2 58 "SharedFibre$Unit" "state" "I", .methodLink RX2 182 yX2_numbered, .instanceMethod yX2_numbered, .selects RX2 yX2_numbered yX2_numbered, .code yX2_numbered cX2_numbered 2 (some (.object "SharedFibre$Unit")), .fieldLink RX2 11 "SharedFibre" "units" "[LSharedFibre$Unit;"] ++ wsX10 ++ wsX20 ++ (vx_atS RX2 41 "java/lang/IllegalArgumentException" ["java/lang/RuntimeException", "java/lang/Exception"]).filter goodWord)
def wsX2_feeder : List Cond := .code yX2_feeder cX2_feeder 3 none :: ([.classLink RX2 37 "java/lang/IllegalArgumentException", .initialized "java/lang/IllegalArgumentException", .fieldLink RX2 15 "SharedFibre" "cut" "[Z"] ++ wsX20 ++ (vx_atS RX2 41 "java/lang/IllegalArgumentException" ["java/lang/RuntimeException", "java/lang/Exception"]).filter goodWord)
def wsX2_discover : List Cond := .code yX2_discover cX2_discover 1 none :: ([.fieldLink RX2 140 "SharedFibre" "quietAsked" "Z"] ++ wsX20)
def wsX2_passDark : List Cond := .code yX2_passDark cX2_passDark 2 none :: ([.fieldLink RX2 152 "SharedFibre" "darkInRow" "I", .fieldLink RX2 146 "SharedFibre" "active" "I", .fieldLink RX2 15 "SharedFibre" "cut" "[Z"] ++ wsX20)
def wsX2_passQuiet : List Cond := .code yX2_passQuiet cX2_passQuiet 5 none :: ([.fieldLink RX2 23 "SharedFibre" "answersIn" "[I", .fieldLink RX2 11 "SharedFibre" "units" "[LSharedFibre$Unit;", .fieldLink RX2 58 "SharedFibre$Unit" "state" "I", .fieldLink RX2 197 "SharedFibre$Unit" "answered" "I", .methodLink RX2 244 yX1_answerWindow, .instanceMethod yX1_answerWindow, .selects RX1 yX1_answerWindow yX1_answerWindow, .initialized RX1, .code yX1_answerWindow cX1_answerWindow 1 (some .int), .fieldLink RX1 22 "SharedFibre$Unit" "serial" "I", .fieldLink RX1 28 "SharedFibre$Unit" "answered" "I", .static yX2_mix, .initialized RX2, .code yX2_mix cX2_mix 3 (some .int), .constant RX2 315 (625341585), .constant RX2 316 (-1640531535)] ++ wsX20 ++ wsX10)
def wsX2_watchErrors : List Cond := .code yX2_watchErrors cX2_watchErrors 6 none :: ([.fieldLink RX2 11 "SharedFibre" "units" "[LSharedFibre$Unit;", .fieldLink RX2 101 "SharedFibre$Unit" "error" "I", .methodLink RX2 247 Lib.Math.abs.name, .static Lib.Math.abs.name, .initialized "java/lang/Math", .code Lib.Math.abs.name Lib.Math.abs.code 1 (some .int), .fieldLink RX2 58 "SharedFibre$Unit" "state" "I", .fieldLink RX2 197 "SharedFibre$Unit" "answered" "I", .fieldLink RX2 229 "SharedFibre" "strayed" "I"] ++ wsX20 ++ wsX10)
def wsX2_nextToGive : List Cond := .code yX2_nextToGive cX2_nextToGive 10 (some (.object "SharedFibre$Container")) :: ([.fieldLink RX2 11 "SharedFibre" "units" "[LSharedFibre$Unit;", .fieldLink RX2 58 "SharedFibre$Unit" "state" "I", .fieldLink RX2 240 "SharedFibre$Unit" "containers" "[LSharedFibre$Container;", .methodLink RX2 267 yX0_wants, .instanceMethod yX0_wants, .selects RX0 yX0_wants yX0_wants, .initialized RX0, .code yX0_wants cX0_wants 1 (some .boolean), .fieldLink RX0 41 "SharedFibre$Container" "given" "I", .fieldLink RX0 35 "SharedFibre$Container" "most" "I", .fieldLink RX0 38 "SharedFibre$Container" "reported" "I", .methodLink RX2 271 yX0_hasLessSpareThan, .instanceMethod yX0_hasLessSpareThan, .selects RX0 yX0_hasLessSpareThan yX0_hasLessSpareThan, .code yX0_hasLessSpareThan cX0_hasLessSpareThan 2 (some .boolean), .fieldLink RX0 44 "SharedFibre$Container" "spare" "I", .fieldLink RX0 18 "SharedFibre$Container" "weight" "I"] ++ wsX20 ++ wsX10 ++ wsX00)
def wsX2_giveSpare : List Cond := .code yX2_giveSpare cX2_giveSpare 4 (some .int) :: ([.fieldLink RX2 212 "SharedFibre$Container" "given" "I", .fieldLink RX2 264 "SharedFibre$Container" "spare" "I", .methodLink RX2 260 yX2_nextToGive, .instanceMethod yX2_nextToGive, .selects RX2 yX2_nextToGive yX2_nextToGive, .initialized RX2, .code yX2_nextToGive cX2_nextToGive 10 (some (.object "SharedFibre$Container")), .fieldLink RX2 11 "SharedFibre" "units" "[LSharedFibre$Unit;", .fieldLink RX2 58 "SharedFibre$Unit" "state" "I", .fieldLink RX2 240 "SharedFibre$Unit" "containers" "[LSharedFibre$Container;", .methodLink RX2 267 yX0_wants, .instanceMethod yX0_wants, .selects RX0 yX0_wants yX0_wants, .initialized RX0, .code yX0_wants cX0_wants 1 (some .boolean), .fieldLink RX0 41 "SharedFibre$Container" "given" "I", .fieldLink RX0 35 "SharedFibre$Container" "most" "I", .fieldLink RX0 38 "SharedFibre$Container" "reported" "I", .methodLink RX2 271 yX0_hasLessSpareThan, .instanceMethod yX0_hasLessSpareThan, .selects RX0 yX0_hasLessSpareThan yX0_hasLessSpareThan, .code yX0_hasLessSpareThan cX0_hasLessSpareThan 2 (some .boolean), .fieldLink RX0 44 "SharedFibre$Container" "spare" "I", .fieldLink RX0 18 "SharedFibre$Container" "weight" "I"] ++ wsX00 ++ wsX20 ++ wsX10)
def wsX2_makeMap_r1 : List Cond := [Cond.fieldLink RX2 11 "SharedFibre" "units" "[LSharedFibre$Unit;", Cond.fieldLink RX2 58 "SharedFibre$Unit" "state" "I", Cond.fieldLink RX2 240 "SharedFibre$Unit" "containers" "[LSharedFibre$Container;", Cond.fieldLink RX2 212 "SharedFibre$Container" "given" "I", Cond.fieldLink RX2 226 "SharedFibre" "notGiven" "I", Cond.methodLink RX2 253 yX0_giveContracted, Cond.instanceMethod yX0_giveContracted, Cond.selects RX0 yX0_giveContracted yX0_giveContracted, Cond.initialized RX0, Cond.code yX0_giveContracted cX0_giveContracted 2 none, Cond.fieldLink RX0 44 "SharedFibre$Container" "spare" "I", Cond.fieldLink RX0 29 "SharedFibre$Container" "fixed" "I", Cond.fieldLink RX0 32 "SharedFibre$Container" "assured" "I", Cond.fieldLink RX0 38 "SharedFibre$Container" "reported" "I", Cond.methodLink RX0 47 Lib.Math.max.name, Cond.static Lib.Math.max.name, Cond.initialized "java/lang/Math", Cond.code Lib.Math.max.name Lib.Math.max.code 2 (some .int), Cond.methodLink RX0 53 Lib.Math.min.name, Cond.static Lib.Math.min.name, Cond.code Lib.Math.min.name Lib.Math.min.code 2 (some .int), Cond.fieldLink RX0 41 "SharedFibre$Container" "given" "I", Cond.methodLink RX2 257 yX2_giveSpare, Cond.instanceMethod yX2_giveSpare]
def wsX2_makeMap_r2 : List Cond := [Cond.selects RX2 yX2_giveSpare yX2_giveSpare, Cond.initialized RX2, Cond.code yX2_giveSpare cX2_giveSpare 4 (some .int), Cond.fieldLink RX2 264 "SharedFibre$Container" "spare" "I", Cond.methodLink RX2 260 yX2_nextToGive, Cond.instanceMethod yX2_nextToGive, Cond.selects RX2 yX2_nextToGive yX2_nextToGive, Cond.code yX2_nextToGive cX2_nextToGive 10 (some (.object "SharedFibre$Container")), Cond.methodLink RX2 267 yX0_wants, Cond.instanceMethod yX0_wants, Cond.selects RX0 yX0_wants yX0_wants, Cond.code yX0_wants cX0_wants 1 (some .boolean), Cond.fieldLink RX0 35 "SharedFibre$Container" "most" "I", Cond.methodLink RX2 271 yX0_hasLessSpareThan, Cond.instanceMethod yX0_hasLessSpareThan, Cond.selects RX0 yX0_hasLessSpareThan yX0_hasLessSpareThan, Cond.code yX0_hasLessSpareThan cX0_hasLessSpareThan 2 (some .boolean), Cond.fieldLink RX0 18 "SharedFibre$Container" "weight" "I"]
def wsX2_makeMap : List Cond := .code yX2_makeMap cX2_makeMap 11 none :: ((wsX2_makeMap_r1 ++ wsX2_makeMap_r2) ++ wsX20 ++ wsX10 ++ wsX00)
def wsX2_layBursts : List Cond := .code yX2_layBursts cX2_layBursts 5 none :: ([.fieldLink RX2 11 "SharedFibre" "units" "[LSharedFibre$Unit;", .fieldLink RX2 58 "SharedFibre$Unit" "state" "I", .fieldLink RX2 26 "SharedFibre" "burstStart" "[I", .fieldLink RX2 101 "SharedFibre$Unit" "error" "I", .fieldLink RX2 29 "SharedFibre" "burstEnd" "[I", .methodLink RX2 275 yX1_burstLength, .instanceMethod yX1_burstLength, .selects RX1 yX1_burstLength yX1_burstLength, .initialized RX1, .code yX1_burstLength cX1_burstLength 6 (some .int), .fieldLink RX1 11 "SharedFibre$Unit" "containers" "[LSharedFibre$Container;", .fieldLink RX1 69 "SharedFibre$Container" "given" "I"] ++ wsX20 ++ wsX10 ++ wsX00)
def wsX2_countMeetings : List Cond := .code yX2_countMeetings cX2_countMeetings 3 none :: ([.fieldLink RX2 26 "SharedFibre" "burstStart" "[I", .methodLink RX2 278 Lib.Math.max.name, .static Lib.Math.max.name, .initialized "java/lang/Math", .code Lib.Math.max.name Lib.Math.max.code 2 (some .int), .fieldLink RX2 29 "SharedFibre" "burstEnd" "[I", .methodLink RX2 282 Lib.Math.min.name, .static Lib.Math.min.name, .code Lib.Math.min.name Lib.Math.min.code 2 (some .int), .fieldLink RX2 223 "SharedFibre" "met" "I"] ++ wsX20)
def wsX2_note : List Cond := .code yX2_note cX2_note 5 none :: ([.fieldLink RX2 158 "SharedFibre" "arrived" "I", .fieldLink RX2 19 "SharedFibre" "arrivals" "[I", .fieldLink RX2 143 "SharedFibre" "frames" "I"] ++ wsX20)
def wsX2_sendFrom_r1 : List Cond := [Cond.fieldLink RX2 11 "SharedFibre" "units" "[LSharedFibre$Unit;", Cond.fieldLink RX2 135 "SharedFibre$Unit" "spoilt" "Z", Cond.fieldLink RX2 212 "SharedFibre$Container" "given" "I", Cond.fieldLink RX2 106 "SharedFibre$Container" "queued" "I", Cond.fieldLink RX2 292 "SharedFibre$Container" "unsent" "[I", Cond.fieldLink RX2 295 "SharedFibre$Container" "firstHurt" "Z", Cond.fieldLink RX2 220 "SharedFibre" "lost" "I", Cond.fieldLink RX2 298 "SharedFibre$Container" "numbers" "[I", Cond.methodLink RX2 289 yX0_sendBlock, Cond.instanceMethod yX0_sendBlock, Cond.selects RX0 yX0_sendBlock yX0_sendBlock, Cond.initialized RX0, Cond.code yX0_sendBlock cX0_sendBlock 2 none, Cond.fieldLink RX0 15 "SharedFibre$Container" "unsent" "[I", Cond.fieldLink RX0 25 "SharedFibre$Container" "firstHurt" "Z", Cond.methodLink RX2 301 yX2_note, Cond.instanceMethod yX2_note, Cond.selects RX2 yX2_note yX2_note, Cond.initialized RX2, Cond.code yX2_note cX2_note 5 none, Cond.fieldLink RX2 158 "SharedFibre" "arrived" "I", Cond.fieldLink RX2 19 "SharedFibre" "arrivals" "[I", Cond.fieldLink RX2 143 "SharedFibre" "frames" "I", Cond.methodLink RX2 305 yX0_dropFirst]
def wsX2_sendFrom_r2 : List Cond := [Cond.instanceMethod yX0_dropFirst, Cond.selects RX0 yX0_dropFirst yX0_dropFirst, Cond.code yX0_dropFirst cX0_dropFirst 2 none, Cond.fieldLink RX0 22 "SharedFibre$Container" "queued" "I", Cond.fieldLink RX0 9 "SharedFibre$Container" "numbers" "[I"]
def wsX2_sendFrom : List Cond := .code yX2_sendFrom cX2_sendFrom 6 none :: ((wsX2_sendFrom_r1 ++ wsX2_sendFrom_r2) ++ wsX20 ++ wsX10 ++ wsX00)
def wsX2_sendBlocks_r1 : List Cond := [Cond.fieldLink RX2 11 "SharedFibre" "units" "[LSharedFibre$Unit;", Cond.fieldLink RX2 58 "SharedFibre$Unit" "state" "I", Cond.fieldLink RX2 240 "SharedFibre$Unit" "containers" "[LSharedFibre$Container;", Cond.fieldLink RX2 135 "SharedFibre$Unit" "spoilt" "Z", Cond.fieldLink RX2 209 "SharedFibre$Container" "reported" "I", Cond.methodLink RX2 285 yX2_sendFrom, Cond.instanceMethod yX2_sendFrom, Cond.selects RX2 yX2_sendFrom yX2_sendFrom, Cond.initialized RX2, Cond.code yX2_sendFrom cX2_sendFrom 6 none, Cond.fieldLink RX2 212 "SharedFibre$Container" "given" "I", Cond.fieldLink RX2 106 "SharedFibre$Container" "queued" "I", Cond.fieldLink RX2 292 "SharedFibre$Container" "unsent" "[I", Cond.fieldLink RX2 295 "SharedFibre$Container" "firstHurt" "Z", Cond.fieldLink RX2 220 "SharedFibre" "lost" "I", Cond.fieldLink RX2 298 "SharedFibre$Container" "numbers" "[I", Cond.methodLink RX2 289 yX0_sendBlock, Cond.instanceMethod yX0_sendBlock, Cond.selects RX0 yX0_sendBlock yX0_sendBlock, Cond.initialized RX0, Cond.code yX0_sendBlock cX0_sendBlock 2 none, Cond.fieldLink RX0 15 "SharedFibre$Container" "unsent" "[I", Cond.fieldLink RX0 25 "SharedFibre$Container" "firstHurt" "Z", Cond.methodLink RX2 301 yX2_note]
def wsX2_sendBlocks_r2 : List Cond := [Cond.instanceMethod yX2_note, Cond.selects RX2 yX2_note yX2_note, Cond.code yX2_note cX2_note 5 none, Cond.fieldLink RX2 158 "SharedFibre" "arrived" "I", Cond.fieldLink RX2 19 "SharedFibre" "arrivals" "[I", Cond.fieldLink RX2 143 "SharedFibre" "frames" "I", Cond.methodLink RX2 305 yX0_dropFirst, Cond.instanceMethod yX0_dropFirst, Cond.selects RX0 yX0_dropFirst yX0_dropFirst, Cond.code yX0_dropFirst cX0_dropFirst 2 none, Cond.fieldLink RX0 22 "SharedFibre$Container" "queued" "I", Cond.fieldLink RX0 9 "SharedFibre$Container" "numbers" "[I", Cond.methodLink RX2 206 yX0_load, Cond.instanceMethod yX0_load, Cond.selects RX0 yX0_load yX0_load, Cond.code yX0_load cX0_load 3 (some .int)]
def wsX2_sendBlocks : List Cond := .code yX2_sendBlocks cX2_sendBlocks 5 none :: ((wsX2_sendBlocks_r1 ++ wsX2_sendBlocks_r2) ++ wsX20 ++ wsX10 ++ wsX00)
def wsX2_tellDown_r1 : List Cond := [Cond.fieldLink RX2 11 "SharedFibre" "units" "[LSharedFibre$Unit;", Cond.fieldLink RX2 58 "SharedFibre$Unit" "state" "I", Cond.fieldLink RX2 143 "SharedFibre" "frames" "I", Cond.methodLink RX2 308 yX1_takeWord, Cond.instanceMethod yX1_takeWord, Cond.selects RX1 yX1_takeWord yX1_takeWord, Cond.initialized RX1, Cond.code yX1_takeWord cX1_takeWord 3 none, Cond.fieldLink RX1 47 "SharedFibre$Unit" "wordWaits" "Z", Cond.fieldLink RX1 34 "SharedFibre$Unit" "keyInForce" "I", Cond.fieldLink RX1 50 "SharedFibre$Unit" "waitingWord" "I", Cond.fieldLink RX1 56 "SharedFibre$Unit" "sentAs" "I", Cond.fieldLink RX1 53 "SharedFibre$Unit" "madeOut" "I", Cond.static yX2_mix, Cond.initialized RX2, Cond.code yX2_mix cX2_mix 3 (some .int), Cond.constant RX2 315 (625341585), Cond.constant RX2 316 (-1640531535), Cond.methodLink RX2 312 yX1_takeKey, Cond.instanceMethod yX1_takeKey, Cond.selects RX1 yX1_takeKey yX1_takeKey, Cond.code yX1_takeKey cX1_takeKey 1 none, Cond.fieldLink RX1 37 "SharedFibre$Unit" "keyWaits" "Z", Cond.fieldLink RX1 41 "SharedFibre$Unit" "waitingKey" "I"]
def wsX2_tellDown_r2 : List Cond := [Cond.fieldLink RX1 44 "SharedFibre$Unit" "toldKey" "I", Cond.fieldLink RX1 59 "SharedFibre$Unit" "spoilt" "Z"]
def wsX2_tellDown : List Cond := .code yX2_tellDown cX2_tellDown 5 none :: ((wsX2_tellDown_r1 ++ wsX2_tellDown_r2) ++ wsX20 ++ wsX10)
def wsX2_clearSpoilt : List Cond := .code yX2_clearSpoilt cX2_clearSpoilt 5 none :: ([.fieldLink RX2 11 "SharedFibre" "units" "[LSharedFibre$Unit;", .fieldLink RX2 135 "SharedFibre$Unit" "spoilt" "Z"] ++ wsX20 ++ wsX10)
def wsX2_frame_r1 : List Cond := [Cond.fieldLink RX2 143 "SharedFibre" "frames" "I", Cond.fieldLink RX2 15 "SharedFibre" "cut" "[Z", Cond.fieldLink RX2 146 "SharedFibre" "active" "I", Cond.fieldLink RX2 152 "SharedFibre" "darkInRow" "I", Cond.fieldLink RX2 140 "SharedFibre" "quietAsked" "Z", Cond.fieldLink RX2 158 "SharedFibre" "arrived" "I", Cond.methodLink RX2 149 yX2_passDark, Cond.instanceMethod yX2_passDark, Cond.selects RX2 yX2_passDark yX2_passDark, Cond.initialized RX2, Cond.code yX2_passDark cX2_passDark 2 none, Cond.methodLink RX2 155 yX2_passQuiet, Cond.instanceMethod yX2_passQuiet, Cond.selects RX2 yX2_passQuiet yX2_passQuiet, Cond.code yX2_passQuiet cX2_passQuiet 5 none, Cond.fieldLink RX2 23 "SharedFibre" "answersIn" "[I", Cond.fieldLink RX2 11 "SharedFibre" "units" "[LSharedFibre$Unit;", Cond.fieldLink RX2 58 "SharedFibre$Unit" "state" "I", Cond.fieldLink RX2 197 "SharedFibre$Unit" "answered" "I", Cond.methodLink RX2 244 yX1_answerWindow, Cond.instanceMethod yX1_answerWindow, Cond.selects RX1 yX1_answerWindow yX1_answerWindow, Cond.initialized RX1, Cond.code yX1_answerWindow cX1_answerWindow 1 (some .int)]
def wsX2_frame_r2 : List Cond := [Cond.fieldLink RX1 22 "SharedFibre$Unit" "serial" "I", Cond.fieldLink RX1 28 "SharedFibre$Unit" "answered" "I", Cond.static yX2_mix, Cond.code yX2_mix cX2_mix 3 (some .int), Cond.constant RX2 315 (625341585), Cond.constant RX2 316 (-1640531535), Cond.methodLink RX2 161 yX2_watchErrors, Cond.instanceMethod yX2_watchErrors, Cond.selects RX2 yX2_watchErrors yX2_watchErrors, Cond.code yX2_watchErrors cX2_watchErrors 6 none, Cond.fieldLink RX2 101 "SharedFibre$Unit" "error" "I", Cond.methodLink RX2 247 Lib.Math.abs.name, Cond.static Lib.Math.abs.name, Cond.initialized "java/lang/Math", Cond.code Lib.Math.abs.name Lib.Math.abs.code 1 (some .int), Cond.fieldLink RX2 229 "SharedFibre" "strayed" "I", Cond.methodLink RX2 164 yX2_makeMap, Cond.instanceMethod yX2_makeMap, Cond.selects RX2 yX2_makeMap yX2_makeMap, Cond.code yX2_makeMap cX2_makeMap 11 none, Cond.fieldLink RX2 240 "SharedFibre$Unit" "containers" "[LSharedFibre$Container;", Cond.fieldLink RX2 212 "SharedFibre$Container" "given" "I", Cond.fieldLink RX2 226 "SharedFibre" "notGiven" "I", Cond.methodLink RX2 253 yX0_giveContracted]
def wsX2_frame_r3 : List Cond := [Cond.instanceMethod yX0_giveContracted, Cond.selects RX0 yX0_giveContracted yX0_giveContracted, Cond.initialized RX0, Cond.code yX0_giveContracted cX0_giveContracted 2 none, Cond.fieldLink RX0 44 "SharedFibre$Container" "spare" "I", Cond.fieldLink RX0 29 "SharedFibre$Container" "fixed" "I", Cond.fieldLink RX0 32 "SharedFibre$Container" "assured" "I", Cond.fieldLink RX0 38 "SharedFibre$Container" "reported" "I", Cond.methodLink RX0 47 Lib.Math.max.name, Cond.static Lib.Math.max.name, Cond.code Lib.Math.max.name Lib.Math.max.code 2 (some .int), Cond.methodLink RX0 53 Lib.Math.min.name, Cond.static Lib.Math.min.name, Cond.code Lib.Math.min.name Lib.Math.min.code 2 (some .int), Cond.fieldLink RX0 41 "SharedFibre$Container" "given" "I", Cond.methodLink RX2 257 yX2_giveSpare, Cond.instanceMethod yX2_giveSpare, Cond.selects RX2 yX2_giveSpare yX2_giveSpare, Cond.code yX2_giveSpare cX2_giveSpare 4 (some .int), Cond.fieldLink RX2 264 "SharedFibre$Container" "spare" "I", Cond.methodLink RX2 260 yX2_nextToGive, Cond.instanceMethod yX2_nextToGive, Cond.selects RX2 yX2_nextToGive yX2_nextToGive, Cond.code yX2_nextToGive cX2_nextToGive 10 (some (.object "SharedFibre$Container"))]
def wsX2_frame_r4 : List Cond := [Cond.methodLink RX2 267 yX0_wants, Cond.instanceMethod yX0_wants, Cond.selects RX0 yX0_wants yX0_wants, Cond.code yX0_wants cX0_wants 1 (some .boolean), Cond.fieldLink RX0 35 "SharedFibre$Container" "most" "I", Cond.methodLink RX2 271 yX0_hasLessSpareThan, Cond.instanceMethod yX0_hasLessSpareThan, Cond.selects RX0 yX0_hasLessSpareThan yX0_hasLessSpareThan, Cond.code yX0_hasLessSpareThan cX0_hasLessSpareThan 2 (some .boolean), Cond.fieldLink RX0 18 "SharedFibre$Container" "weight" "I", Cond.methodLink RX2 167 yX2_layBursts, Cond.instanceMethod yX2_layBursts, Cond.selects RX2 yX2_layBursts yX2_layBursts, Cond.code yX2_layBursts cX2_layBursts 5 none, Cond.fieldLink RX2 26 "SharedFibre" "burstStart" "[I", Cond.fieldLink RX2 29 "SharedFibre" "burstEnd" "[I", Cond.methodLink RX2 275 yX1_burstLength, Cond.instanceMethod yX1_burstLength, Cond.selects RX1 yX1_burstLength yX1_burstLength, Cond.code yX1_burstLength cX1_burstLength 6 (some .int), Cond.fieldLink RX1 11 "SharedFibre$Unit" "containers" "[LSharedFibre$Container;", Cond.fieldLink RX1 69 "SharedFibre$Container" "given" "I", Cond.methodLink RX2 170 yX2_countMeetings, Cond.instanceMethod yX2_countMeetings]
def wsX2_frame_r5 : List Cond := [Cond.selects RX2 yX2_countMeetings yX2_countMeetings, Cond.code yX2_countMeetings cX2_countMeetings 3 none, Cond.methodLink RX2 278 Lib.Math.max.name, Cond.methodLink RX2 282 Lib.Math.min.name, Cond.fieldLink RX2 223 "SharedFibre" "met" "I", Cond.methodLink RX2 173 yX2_sendBlocks, Cond.instanceMethod yX2_sendBlocks, Cond.selects RX2 yX2_sendBlocks yX2_sendBlocks, Cond.code yX2_sendBlocks cX2_sendBlocks 5 none, Cond.fieldLink RX2 135 "SharedFibre$Unit" "spoilt" "Z", Cond.fieldLink RX2 209 "SharedFibre$Container" "reported" "I", Cond.methodLink RX2 285 yX2_sendFrom, Cond.instanceMethod yX2_sendFrom, Cond.selects RX2 yX2_sendFrom yX2_sendFrom, Cond.code yX2_sendFrom cX2_sendFrom 6 none, Cond.fieldLink RX2 106 "SharedFibre$Container" "queued" "I", Cond.fieldLink RX2 292 "SharedFibre$Container" "unsent" "[I", Cond.fieldLink RX2 295 "SharedFibre$Container" "firstHurt" "Z", Cond.fieldLink RX2 220 "SharedFibre" "lost" "I", Cond.fieldLink RX2 298 "SharedFibre$Container" "numbers" "[I", Cond.methodLink RX2 289 yX0_sendBlock, Cond.instanceMethod yX0_sendBlock, Cond.selects RX0 yX0_sendBlock yX0_sendBlock, Cond.code yX0_sendBlock cX0_sendBlock 2 none]
def wsX2_frame_r6 : List Cond := [Cond.fieldLink RX0 15 "SharedFibre$Container" "unsent" "[I", Cond.fieldLink RX0 25 "SharedFibre$Container" "firstHurt" "Z", Cond.methodLink RX2 301 yX2_note, Cond.instanceMethod yX2_note, Cond.selects RX2 yX2_note yX2_note, Cond.code yX2_note cX2_note 5 none, Cond.fieldLink RX2 19 "SharedFibre" "arrivals" "[I", Cond.methodLink RX2 305 yX0_dropFirst, Cond.instanceMethod yX0_dropFirst, Cond.selects RX0 yX0_dropFirst yX0_dropFirst, Cond.code yX0_dropFirst cX0_dropFirst 2 none, Cond.fieldLink RX0 22 "SharedFibre$Container" "queued" "I", Cond.fieldLink RX0 9 "SharedFibre$Container" "numbers" "[I", Cond.methodLink RX2 206 yX0_load, Cond.instanceMethod yX0_load, Cond.selects RX0 yX0_load yX0_load, Cond.code yX0_load cX0_load 3 (some .int), Cond.methodLink RX2 176 yX2_tellDown, Cond.instanceMethod yX2_tellDown, Cond.selects RX2 yX2_tellDown yX2_tellDown, Cond.code yX2_tellDown cX2_tellDown 5 none, Cond.methodLink RX2 308 yX1_takeWord, Cond.instanceMethod yX1_takeWord, Cond.selects RX1 yX1_takeWord yX1_takeWord]
def wsX2_frame_r7 : List Cond := [Cond.code yX1_takeWord cX1_takeWord 3 none, Cond.fieldLink RX1 47 "SharedFibre$Unit" "wordWaits" "Z", Cond.fieldLink RX1 34 "SharedFibre$Unit" "keyInForce" "I", Cond.fieldLink RX1 50 "SharedFibre$Unit" "waitingWord" "I", Cond.fieldLink RX1 56 "SharedFibre$Unit" "sentAs" "I", Cond.fieldLink RX1 53 "SharedFibre$Unit" "madeOut" "I", Cond.methodLink RX2 312 yX1_takeKey, Cond.instanceMethod yX1_takeKey, Cond.selects RX1 yX1_takeKey yX1_takeKey, Cond.code yX1_takeKey cX1_takeKey 1 none, Cond.fieldLink RX1 37 "SharedFibre$Unit" "keyWaits" "Z", Cond.fieldLink RX1 41 "SharedFibre$Unit" "waitingKey" "I", Cond.fieldLink RX1 44 "SharedFibre$Unit" "toldKey" "I", Cond.fieldLink RX1 59 "SharedFibre$Unit" "spoilt" "Z", Cond.methodLink RX2 179 yX2_clearSpoilt, Cond.instanceMethod yX2_clearSpoilt, Cond.selects RX2 yX2_clearSpoilt yX2_clearSpoilt, Cond.code yX2_clearSpoilt cX2_clearSpoilt 5 none]
def wsX2_frame : List Cond := .code yX2_frame cX2_frame 2 (some .int) :: ((wsX2_frame_r1 ++ (wsX2_frame_r2 ++ (wsX2_frame_r3 ++ (wsX2_frame_r4 ++ (wsX2_frame_r5 ++ (wsX2_frame_r6 ++ wsX2_frame_r7)))))) ++ wsX20 ++ wsX10 ++ wsX00)
def wsX2_unit : List Cond := .code yX2_unit cX2_unit 4 (some .int) :: ([.classLink RX2 37 "java/lang/IllegalArgumentException", .initialized "java/lang/IllegalArgumentException", .fieldLink RX2 58 "SharedFibre$Unit" "state" "I", .fieldLink RX2 101 "SharedFibre$Unit" "error" "I", .fieldLink RX2 185 "SharedFibre$Unit" "keyInForce" "I", .fieldLink RX2 188 "SharedFibre$Unit" "toldKey" "I", .fieldLink RX2 191 "SharedFibre$Unit" "madeOut" "I", .fieldLink RX2 194 "SharedFibre$Unit" "sentAs" "I", .fieldLink RX2 197 "SharedFibre$Unit" "answered" "I", .methodLink RX2 182 yX2_numbered, .instanceMethod yX2_numbered, .selects RX2 yX2_numbered yX2_numbered, .initialized RX2, .code yX2_numbered cX2_numbered 2 (some (.object "SharedFibre$Unit")), .fieldLink RX2 11 "SharedFibre" "units" "[LSharedFibre$Unit;"] ++ wsX10 ++ wsX20 ++ (vx_atS RX2 41 "java/lang/IllegalArgumentException" ["java/lang/RuntimeException", "java/lang/Exception"]).filter goodWord)
def wsX2_container : List Cond := .code yX2_container cX2_container 5 (some .int) :: ([.classLink RX2 37 "java/lang/IllegalArgumentException", .initialized "java/lang/IllegalArgumentException", .fieldLink RX2 209 "SharedFibre$Container" "reported" "I", .fieldLink RX2 212 "SharedFibre$Container" "given" "I", .fieldLink RX2 106 "SharedFibre$Container" "queued" "I", .methodLink RX2 182 yX2_numbered, .instanceMethod yX2_numbered, .selects RX2 yX2_numbered yX2_numbered, .initialized RX2, .code yX2_numbered cX2_numbered 2 (some (.object "SharedFibre$Unit")), .fieldLink RX2 11 "SharedFibre" "units" "[LSharedFibre$Unit;", .methodLink RX2 202 yX2_containerOf, .static yX2_containerOf, .code yX2_containerOf cX2_containerOf 2 (some (.object "SharedFibre$Container")), .fieldLink RX2 240 "SharedFibre$Unit" "containers" "[LSharedFibre$Container;", .methodLink RX2 206 yX0_load, .instanceMethod yX0_load, .selects RX0 yX0_load yX0_load, .initialized RX0, .code yX0_load cX0_load 3 (some .int), .fieldLink RX0 22 "SharedFibre$Container" "queued" "I", .fieldLink RX0 15 "SharedFibre$Container" "unsent" "[I"] ++ wsX00 ++ wsX20 ++ wsX10 ++ (vx_atS RX2 41 "java/lang/IllegalArgumentException" ["java/lang/RuntimeException", "java/lang/Exception"]).filter goodWord)
def wsX2_came : List Cond := .code yX2_came cX2_came 3 (some .int) :: ([.classLink RX2 215 "java/lang/IndexOutOfBoundsException", .initialized "java/lang/IndexOutOfBoundsException", .classLink RX2 37 "java/lang/IllegalArgumentException", .initialized "java/lang/IllegalArgumentException", .fieldLink RX2 158 "SharedFibre" "arrived" "I", .fieldLink RX2 19 "SharedFibre" "arrivals" "[I"] ++ wsX20 ++ (vx_atS RX2 219 "java/lang/IndexOutOfBoundsException" ["java/lang/RuntimeException", "java/lang/Exception"]).filter goodWord ++ (vx_atS RX2 41 "java/lang/IllegalArgumentException" ["java/lang/RuntimeException", "java/lang/Exception"]).filter goodWord)
def wsX2_count : List Cond := .code yX2_count cX2_count 2 (some .int) :: ([.classLink RX2 37 "java/lang/IllegalArgumentException", .initialized "java/lang/IllegalArgumentException", .fieldLink RX2 158 "SharedFibre" "arrived" "I", .fieldLink RX2 220 "SharedFibre" "lost" "I", .fieldLink RX2 143 "SharedFibre" "frames" "I", .fieldLink RX2 146 "SharedFibre" "active" "I", .fieldLink RX2 223 "SharedFibre" "met" "I", .fieldLink RX2 226 "SharedFibre" "notGiven" "I", .fieldLink RX2 229 "SharedFibre" "strayed" "I"] ++ wsX20 ++ (vx_atS RX2 41 "java/lang/IllegalArgumentException" ["java/lang/RuntimeException", "java/lang/Exception"]).filter goodWord)
def wsX3_init_r1 : List Cond := [Cond.methodLink RX3 1 objectInit, Cond.instanceMethod objectInit, Cond.code objectInit ⟨#[0xb1]⟩ 1 none, Cond.arrayClass .int, Cond.fieldLink RX3 7 "SharedFibreModel" "state" "[I", Cond.fieldLink RX3 13 "SharedFibreModel" "serial" "[I", Cond.fieldLink RX3 16 "SharedFibreModel" "way" "[I", Cond.fieldLink RX3 19 "SharedFibreModel" "answered" "[I", Cond.fieldLink RX3 22 "SharedFibreModel" "hold" "[I", Cond.arrayClass .boolean, Cond.fieldLink RX3 25 "SharedFibreModel" "spoilt" "[Z", Cond.fieldLink RX3 29 "SharedFibreModel" "cut" "[Z", Cond.fieldLink RX3 32 "SharedFibreModel" "inForce" "[I", Cond.fieldLink RX3 35 "SharedFibreModel" "waiting" "[I", Cond.fieldLink RX3 38 "SharedFibreModel" "told" "[I", Cond.fieldLink RX3 41 "SharedFibreModel" "hasWord" "[Z", Cond.fieldLink RX3 44 "SharedFibreModel" "word" "[I", Cond.fieldLink RX3 47 "SharedFibreModel" "made" "[I", Cond.fieldLink RX3 50 "SharedFibreModel" "sentAs" "[I", Cond.fieldLink RX3 53 "SharedFibreModel" "fixed" "[I", Cond.fieldLink RX3 56 "SharedFibreModel" "assured" "[I", Cond.fieldLink RX3 59 "SharedFibreModel" "most" "[I", Cond.fieldLink RX3 62 "SharedFibreModel" "weight" "[I", Cond.fieldLink RX3 65 "SharedFibreModel" "reported" "[I"]
def wsX3_init_r2 : List Cond := [Cond.fieldLink RX3 68 "SharedFibreModel" "given" "[I", Cond.fieldLink RX3 71 "SharedFibreModel" "spare" "[I", Cond.fieldLink RX3 74 "SharedFibreModel" "queued" "[I", Cond.fieldLink RX3 77 "SharedFibreModel" "queue" "[I", Cond.fieldLink RX3 80 "SharedFibreModel" "left" "[I", Cond.fieldLink RX3 83 "SharedFibreModel" "broken" "[Z", Cond.fieldLink RX3 86 "SharedFibreModel" "cameNumber" "[I", Cond.fieldLink RX3 89 "SharedFibreModel" "cameFrom" "[I", Cond.fieldLink RX3 92 "SharedFibreModel" "cameFrame" "[I", Cond.fieldLink RX3 95 "SharedFibreModel" "start" "[I", Cond.fieldLink RX3 98 "SharedFibreModel" "span" "[I"]
def wsX3_init : List Cond := .code yX3_init cX3_init 1 none :: ((wsX3_init_r1 ++ wsX3_init_r2) ++ wsX30)
def wsX3_thrown : List Cond := .code yX3_thrown cX3_thrown 1 (some .int) :: ([.fieldLink RX3 101 "SharedFibreModel" "thrown" "I"] ++ wsX30)
def wsX3_mix : List Cond := .code yX3_mix cX3_mix 4 (some .int) :: ([.constant RX3 105 (625341585), .constant RX3 106 (-1640531535)])
def wsX3_isAway : List Cond := .code yX3_isAway cX3_isAway 2 (some .boolean) :: ([.fieldLink RX3 7 "SharedFibreModel" "state" "[I"] ++ wsX30)
def wsX3_extra : List Cond := .code yX3_extra cX3_extra 2 (some .int) :: ([])
def wsX3_errorOf : List Cond := .code yX3_errorOf cX3_errorOf 2 (some .int) :: ([.fieldLink RX3 16 "SharedFibreModel" "way" "[I", .fieldLink RX3 107 "SharedFibreModel" "active" "I", .fieldLink RX3 22 "SharedFibreModel" "hold" "[I", .methodLink RX3 110 yX3_extra, .instanceMethod yX3_extra, .selects RX3 yX3_extra yX3_extra, .initialized RX3, .code yX3_extra cX3_extra 2 (some .int)] ++ wsX30)
def wsX3_level : List Cond := .code yX3_level cX3_level 2 none :: ([.fieldLink RX3 22 "SharedFibreModel" "hold" "[I", .fieldLink RX3 16 "SharedFibreModel" "way" "[I", .fieldLink RX3 107 "SharedFibreModel" "active" "I", .methodLink RX3 110 yX3_extra, .instanceMethod yX3_extra, .selects RX3 yX3_extra yX3_extra, .initialized RX3, .code yX3_extra cX3_extra 2 (some .int)] ++ wsX30)
def wsX3_empty : List Cond := .code yX3_empty cX3_empty 2 none :: ([.fieldLink RX3 53 "SharedFibreModel" "fixed" "[I", .fieldLink RX3 56 "SharedFibreModel" "assured" "[I", .fieldLink RX3 59 "SharedFibreModel" "most" "[I", .fieldLink RX3 62 "SharedFibreModel" "weight" "[I", .fieldLink RX3 65 "SharedFibreModel" "reported" "[I", .fieldLink RX3 68 "SharedFibreModel" "given" "[I", .fieldLink RX3 74 "SharedFibreModel" "queued" "[I"] ++ wsX30)
def wsX3_plug_r1 : List Cond := [Cond.fieldLink RX3 7 "SharedFibreModel" "state" "[I", Cond.fieldLink RX3 13 "SharedFibreModel" "serial" "[I", Cond.fieldLink RX3 101 "SharedFibreModel" "thrown" "I", Cond.fieldLink RX3 16 "SharedFibreModel" "way" "[I", Cond.fieldLink RX3 19 "SharedFibreModel" "answered" "[I", Cond.fieldLink RX3 22 "SharedFibreModel" "hold" "[I", Cond.fieldLink RX3 25 "SharedFibreModel" "spoilt" "[Z", Cond.fieldLink RX3 32 "SharedFibreModel" "inForce" "[I", Cond.fieldLink RX3 35 "SharedFibreModel" "waiting" "[I", Cond.fieldLink RX3 38 "SharedFibreModel" "told" "[I", Cond.fieldLink RX3 41 "SharedFibreModel" "hasWord" "[Z", Cond.fieldLink RX3 47 "SharedFibreModel" "made" "[I", Cond.fieldLink RX3 50 "SharedFibreModel" "sentAs" "[I", Cond.methodLink RX3 114 yX3_empty, Cond.instanceMethod yX3_empty, Cond.selects RX3 yX3_empty yX3_empty, Cond.initialized RX3, Cond.code yX3_empty cX3_empty 2 none, Cond.fieldLink RX3 53 "SharedFibreModel" "fixed" "[I", Cond.fieldLink RX3 56 "SharedFibreModel" "assured" "[I", Cond.fieldLink RX3 59 "SharedFibreModel" "most" "[I", Cond.fieldLink RX3 62 "SharedFibreModel" "weight" "[I", Cond.fieldLink RX3 65 "SharedFibreModel" "reported" "[I", Cond.fieldLink RX3 68 "SharedFibreModel" "given" "[I"]
def wsX3_plug_r2 : List Cond := [Cond.fieldLink RX3 74 "SharedFibreModel" "queued" "[I"]
def wsX3_plug : List Cond := .code yX3_plug cX3_plug 6 (some .int) :: ((wsX3_plug_r1 ++ wsX3_plug_r2) ++ wsX30)
def wsX3_unplug : List Cond := .code yX3_unplug cX3_unplug 2 none :: ([.fieldLink RX3 101 "SharedFibreModel" "thrown" "I", .fieldLink RX3 7 "SharedFibreModel" "state" "[I", .methodLink RX3 118 yX3_isAway, .instanceMethod yX3_isAway, .selects RX3 yX3_isAway yX3_isAway, .initialized RX3, .code yX3_isAway cX3_isAway 2 (some .boolean), .methodLink RX3 114 yX3_empty, .instanceMethod yX3_empty, .selects RX3 yX3_empty yX3_empty, .code yX3_empty cX3_empty 2 none, .fieldLink RX3 53 "SharedFibreModel" "fixed" "[I", .fieldLink RX3 56 "SharedFibreModel" "assured" "[I", .fieldLink RX3 59 "SharedFibreModel" "most" "[I", .fieldLink RX3 62 "SharedFibreModel" "weight" "[I", .fieldLink RX3 65 "SharedFibreModel" "reported" "[I", .fieldLink RX3 68 "SharedFibreModel" "given" "[I", .fieldLink RX3 74 "SharedFibreModel" "queued" "[I"] ++ wsX30)
def wsX3_noContainer : List Cond := .code yX3_noContainer cX3_noContainer 3 (some .boolean) :: ([.methodLink RX3 118 yX3_isAway, .instanceMethod yX3_isAway, .selects RX3 yX3_isAway yX3_isAway, .initialized RX3, .code yX3_isAway cX3_isAway 2 (some .boolean), .fieldLink RX3 7 "SharedFibreModel" "state" "[I"] ++ wsX30)
def wsX3_contract : List Cond := .code yX3_contract cX3_contract 10 none :: ([.fieldLink RX3 101 "SharedFibreModel" "thrown" "I", .fieldLink RX3 53 "SharedFibreModel" "fixed" "[I", .fieldLink RX3 56 "SharedFibreModel" "assured" "[I", .fieldLink RX3 59 "SharedFibreModel" "most" "[I", .fieldLink RX3 62 "SharedFibreModel" "weight" "[I", .methodLink RX3 122 yX3_noContainer, .instanceMethod yX3_noContainer, .selects RX3 yX3_noContainer yX3_noContainer, .initialized RX3, .code yX3_noContainer cX3_noContainer 3 (some .boolean), .methodLink RX3 118 yX3_isAway, .instanceMethod yX3_isAway, .selects RX3 yX3_isAway yX3_isAway, .code yX3_isAway cX3_isAway 2 (some .boolean), .fieldLink RX3 7 "SharedFibreModel" "state" "[I"] ++ wsX30)
def wsX3_drift : List Cond := .code yX3_drift cX3_drift 4 none :: ([.fieldLink RX3 16 "SharedFibreModel" "way" "[I", .fieldLink RX3 101 "SharedFibreModel" "thrown" "I", .methodLink RX3 118 yX3_isAway, .instanceMethod yX3_isAway, .selects RX3 yX3_isAway yX3_isAway, .initialized RX3, .code yX3_isAway cX3_isAway 2 (some .boolean), .fieldLink RX3 7 "SharedFibreModel" "state" "[I"] ++ wsX30)
def wsX3_send : List Cond := .code yX3_send cX3_send 5 (some .int) :: ([.fieldLink RX3 74 "SharedFibreModel" "queued" "[I", .fieldLink RX3 126 "SharedFibreModel" "datagrams" "I", .fieldLink RX3 101 "SharedFibreModel" "thrown" "I", .fieldLink RX3 77 "SharedFibreModel" "queue" "[I", .fieldLink RX3 80 "SharedFibreModel" "left" "[I", .methodLink RX3 122 yX3_noContainer, .instanceMethod yX3_noContainer, .selects RX3 yX3_noContainer yX3_noContainer, .initialized RX3, .code yX3_noContainer cX3_noContainer 3 (some .boolean), .methodLink RX3 118 yX3_isAway, .instanceMethod yX3_isAway, .selects RX3 yX3_isAway yX3_isAway, .code yX3_isAway cX3_isAway 2 (some .boolean), .fieldLink RX3 7 "SharedFibreModel" "state" "[I"] ++ wsX30)
def wsX3_key : List Cond := .code yX3_key cX3_key 3 none :: ([.fieldLink RX3 35 "SharedFibreModel" "waiting" "[I", .fieldLink RX3 101 "SharedFibreModel" "thrown" "I", .methodLink RX3 118 yX3_isAway, .instanceMethod yX3_isAway, .selects RX3 yX3_isAway yX3_isAway, .initialized RX3, .code yX3_isAway cX3_isAway 2 (some .boolean), .fieldLink RX3 7 "SharedFibreModel" "state" "[I"] ++ wsX30)
def wsX3_down : List Cond := .code yX3_down cX3_down 3 none :: ([.fieldLink RX3 101 "SharedFibreModel" "thrown" "I", .fieldLink RX3 44 "SharedFibreModel" "word" "[I", .fieldLink RX3 41 "SharedFibreModel" "hasWord" "[Z", .methodLink RX3 118 yX3_isAway, .instanceMethod yX3_isAway, .selects RX3 yX3_isAway yX3_isAway, .initialized RX3, .code yX3_isAway cX3_isAway 2 (some .boolean), .fieldLink RX3 7 "SharedFibreModel" "state" "[I"] ++ wsX30)
def wsX3_spoil : List Cond := .code yX3_spoil cX3_spoil 2 none :: ([.fieldLink RX3 101 "SharedFibreModel" "thrown" "I", .fieldLink RX3 25 "SharedFibreModel" "spoilt" "[Z", .methodLink RX3 118 yX3_isAway, .instanceMethod yX3_isAway, .selects RX3 yX3_isAway yX3_isAway, .initialized RX3, .code yX3_isAway cX3_isAway 2 (some .boolean), .fieldLink RX3 7 "SharedFibreModel" "state" "[I"] ++ wsX30)
def wsX3_feeder : List Cond := .code yX3_feeder cX3_feeder 3 none :: ([.fieldLink RX3 101 "SharedFibreModel" "thrown" "I", .fieldLink RX3 29 "SharedFibreModel" "cut" "[Z"] ++ wsX30)
def wsX3_discover : List Cond := .code yX3_discover cX3_discover 1 none :: ([.fieldLink RX3 101 "SharedFibreModel" "thrown" "I", .fieldLink RX3 129 "SharedFibreModel" "quiet" "Z"] ++ wsX30)
def wsX3_darkFrame : List Cond := .code yX3_darkFrame cX3_darkFrame 3 none :: ([.fieldLink RX3 133 "SharedFibreModel" "dark" "I", .fieldLink RX3 107 "SharedFibreModel" "active" "I", .fieldLink RX3 29 "SharedFibreModel" "cut" "[Z", .fieldLink RX3 22 "SharedFibreModel" "hold" "[I", .methodLink RX3 110 yX3_extra, .instanceMethod yX3_extra, .selects RX3 yX3_extra yX3_extra, .initialized RX3, .code yX3_extra cX3_extra 2 (some .int)] ++ wsX30)
def wsX3_window : List Cond := .code yX3_window cX3_window 2 (some .int) :: ([.fieldLink RX3 13 "SharedFibreModel" "serial" "[I", .fieldLink RX3 19 "SharedFibreModel" "answered" "[I", .methodLink RX3 136 yX3_mix, .instanceMethod yX3_mix, .selects RX3 yX3_mix yX3_mix, .initialized RX3, .code yX3_mix cX3_mix 4 (some .int), .constant RX3 105 (625341585), .constant RX3 106 (-1640531535)] ++ wsX30)
def wsX3_quietFrame_r1 : List Cond := [Cond.fieldLink RX3 7 "SharedFibreModel" "state" "[I", Cond.fieldLink RX3 19 "SharedFibreModel" "answered" "[I", Cond.methodLink RX3 140 yX3_window, Cond.instanceMethod yX3_window, Cond.selects RX3 yX3_window yX3_window, Cond.initialized RX3, Cond.code yX3_window cX3_window 2 (some .int), Cond.fieldLink RX3 13 "SharedFibreModel" "serial" "[I", Cond.methodLink RX3 136 yX3_mix, Cond.instanceMethod yX3_mix, Cond.selects RX3 yX3_mix yX3_mix, Cond.code yX3_mix cX3_mix 4 (some .int), Cond.constant RX3 105 (625341585), Cond.constant RX3 106 (-1640531535), Cond.methodLink RX3 143 yX3_level, Cond.instanceMethod yX3_level, Cond.selects RX3 yX3_level yX3_level, Cond.code yX3_level cX3_level 2 none, Cond.fieldLink RX3 22 "SharedFibreModel" "hold" "[I", Cond.fieldLink RX3 16 "SharedFibreModel" "way" "[I", Cond.fieldLink RX3 107 "SharedFibreModel" "active" "I", Cond.methodLink RX3 110 yX3_extra, Cond.instanceMethod yX3_extra, Cond.selects RX3 yX3_extra yX3_extra]
def wsX3_quietFrame_r2 : List Cond := [Cond.code yX3_extra cX3_extra 2 (some .int)]
def wsX3_quietFrame : List Cond := .code yX3_quietFrame cX3_quietFrame 5 none :: ((wsX3_quietFrame_r1 ++ wsX3_quietFrame_r2) ++ wsX30)
def wsX3_look : List Cond := .code yX3_look cX3_look 3 none :: ([.fieldLink RX3 7 "SharedFibreModel" "state" "[I", .fieldLink RX3 19 "SharedFibreModel" "answered" "[I", .fieldLink RX3 149 "SharedFibreModel" "drifted" "I", .methodLink RX3 146 yX3_errorOf, .instanceMethod yX3_errorOf, .selects RX3 yX3_errorOf yX3_errorOf, .initialized RX3, .code yX3_errorOf cX3_errorOf 2 (some .int), .fieldLink RX3 16 "SharedFibreModel" "way" "[I", .fieldLink RX3 107 "SharedFibreModel" "active" "I", .fieldLink RX3 22 "SharedFibreModel" "hold" "[I", .methodLink RX3 110 yX3_extra, .instanceMethod yX3_extra, .selects RX3 yX3_extra yX3_extra, .code yX3_extra cX3_extra 2 (some .int), .methodLink RX3 143 yX3_level, .instanceMethod yX3_level, .selects RX3 yX3_level yX3_level, .code yX3_level cX3_level 2 none] ++ wsX30)
def wsX3_wants : List Cond := .code yX3_wants cX3_wants 2 (some .boolean) :: ([.fieldLink RX3 7 "SharedFibreModel" "state" "[I", .fieldLink RX3 68 "SharedFibreModel" "given" "[I", .fieldLink RX3 59 "SharedFibreModel" "most" "[I", .fieldLink RX3 65 "SharedFibreModel" "reported" "[I"] ++ wsX30)
def wsX3_map : List Cond := .code yX3_map cX3_map 4 none :: ([.fieldLink RX3 152 "SharedFibreModel" "free" "I", .fieldLink RX3 7 "SharedFibreModel" "state" "[I", .fieldLink RX3 65 "SharedFibreModel" "reported" "[I", .fieldLink RX3 53 "SharedFibreModel" "fixed" "[I", .fieldLink RX3 56 "SharedFibreModel" "assured" "[I", .fieldLink RX3 68 "SharedFibreModel" "given" "[I", .fieldLink RX3 71 "SharedFibreModel" "spare" "[I", .fieldLink RX3 62 "SharedFibreModel" "weight" "[I", .methodLink RX3 155 yX3_wants, .instanceMethod yX3_wants, .selects RX3 yX3_wants yX3_wants, .initialized RX3, .code yX3_wants cX3_wants 2 (some .boolean), .fieldLink RX3 59 "SharedFibreModel" "most" "[I"] ++ wsX30)
def wsX3_bursts : List Cond := .code yX3_bursts cX3_bursts 5 none :: ([.fieldLink RX3 7 "SharedFibreModel" "state" "[I", .fieldLink RX3 95 "SharedFibreModel" "start" "[I", .fieldLink RX3 98 "SharedFibreModel" "span" "[I", .fieldLink RX3 68 "SharedFibreModel" "given" "[I", .fieldLink RX3 158 "SharedFibreModel" "met" "I", .methodLink RX3 146 yX3_errorOf, .instanceMethod yX3_errorOf, .selects RX3 yX3_errorOf yX3_errorOf, .initialized RX3, .code yX3_errorOf cX3_errorOf 2 (some .int), .fieldLink RX3 16 "SharedFibreModel" "way" "[I", .fieldLink RX3 107 "SharedFibreModel" "active" "I", .fieldLink RX3 22 "SharedFibreModel" "hold" "[I", .methodLink RX3 110 yX3_extra, .instanceMethod yX3_extra, .selects RX3 yX3_extra yX3_extra, .code yX3_extra cX3_extra 2 (some .int)] ++ wsX30)
def wsX3_loadOf : List Cond := .code yX3_loadOf cX3_loadOf 4 (some .int) :: ([.fieldLink RX3 74 "SharedFibreModel" "queued" "[I", .fieldLink RX3 80 "SharedFibreModel" "left" "[I", .fieldLink RX3 77 "SharedFibreModel" "queue" "[I"] ++ wsX30)
def wsX3_leave : List Cond := .code yX3_leave cX3_leave 3 none :: ([.fieldLink RX3 74 "SharedFibreModel" "queued" "[I", .fieldLink RX3 77 "SharedFibreModel" "queue" "[I"] ++ wsX30)
def wsX3_sendBlock : List Cond := .code yX3_sendBlock cX3_sendBlock 3 (some .boolean) :: ([.fieldLink RX3 77 "SharedFibreModel" "queue" "[I", .fieldLink RX3 80 "SharedFibreModel" "left" "[I", .fieldLink RX3 83 "SharedFibreModel" "broken" "[Z", .fieldLink RX3 25 "SharedFibreModel" "spoilt" "[Z", .fieldLink RX3 164 "SharedFibreModel" "lost" "I", .fieldLink RX3 86 "SharedFibreModel" "cameNumber" "[I", .fieldLink RX3 167 "SharedFibreModel" "many" "I", .fieldLink RX3 89 "SharedFibreModel" "cameFrom" "[I", .fieldLink RX3 92 "SharedFibreModel" "cameFrame" "[I", .fieldLink RX3 170 "SharedFibreModel" "frames" "I", .methodLink RX3 161 yX3_leave, .instanceMethod yX3_leave, .selects RX3 yX3_leave yX3_leave, .initialized RX3, .code yX3_leave cX3_leave 3 none, .fieldLink RX3 74 "SharedFibreModel" "queued" "[I"] ++ wsX30)
def wsX3_transport_r1 : List Cond := [Cond.fieldLink RX3 68 "SharedFibreModel" "given" "[I", Cond.fieldLink RX3 74 "SharedFibreModel" "queued" "[I", Cond.fieldLink RX3 25 "SharedFibreModel" "spoilt" "[Z", Cond.fieldLink RX3 65 "SharedFibreModel" "reported" "[I", Cond.methodLink RX3 173 yX3_sendBlock, Cond.instanceMethod yX3_sendBlock, Cond.selects RX3 yX3_sendBlock yX3_sendBlock, Cond.initialized RX3, Cond.code yX3_sendBlock cX3_sendBlock 3 (some .boolean), Cond.fieldLink RX3 77 "SharedFibreModel" "queue" "[I", Cond.fieldLink RX3 80 "SharedFibreModel" "left" "[I", Cond.fieldLink RX3 83 "SharedFibreModel" "broken" "[Z", Cond.fieldLink RX3 164 "SharedFibreModel" "lost" "I", Cond.fieldLink RX3 86 "SharedFibreModel" "cameNumber" "[I", Cond.fieldLink RX3 167 "SharedFibreModel" "many" "I", Cond.fieldLink RX3 89 "SharedFibreModel" "cameFrom" "[I", Cond.fieldLink RX3 92 "SharedFibreModel" "cameFrame" "[I", Cond.fieldLink RX3 170 "SharedFibreModel" "frames" "I", Cond.methodLink RX3 161 yX3_leave, Cond.instanceMethod yX3_leave, Cond.selects RX3 yX3_leave yX3_leave, Cond.code yX3_leave cX3_leave 3 none, Cond.methodLink RX3 176 yX3_loadOf, Cond.instanceMethod yX3_loadOf]
def wsX3_transport_r2 : List Cond := [Cond.selects RX3 yX3_loadOf yX3_loadOf, Cond.code yX3_loadOf cX3_loadOf 4 (some .int)]
def wsX3_transport : List Cond := .code yX3_transport cX3_transport 4 (some .int) :: ((wsX3_transport_r1 ++ wsX3_transport_r2) ++ wsX30)
def wsX3_keys : List Cond := .code yX3_keys cX3_keys 2 none :: ([.fieldLink RX3 41 "SharedFibreModel" "hasWord" "[Z", .fieldLink RX3 50 "SharedFibreModel" "sentAs" "[I", .fieldLink RX3 44 "SharedFibreModel" "word" "[I", .fieldLink RX3 32 "SharedFibreModel" "inForce" "[I", .fieldLink RX3 170 "SharedFibreModel" "frames" "I", .fieldLink RX3 47 "SharedFibreModel" "made" "[I", .fieldLink RX3 35 "SharedFibreModel" "waiting" "[I", .fieldLink RX3 38 "SharedFibreModel" "told" "[I", .fieldLink RX3 25 "SharedFibreModel" "spoilt" "[Z", .methodLink RX3 136 yX3_mix, .instanceMethod yX3_mix, .selects RX3 yX3_mix yX3_mix, .initialized RX3, .code yX3_mix cX3_mix 4 (some .int), .constant RX3 105 (625341585), .constant RX3 106 (-1640531535)] ++ wsX30)
def wsX3_frame_r1 : List Cond := [Cond.fieldLink RX3 101 "SharedFibreModel" "thrown" "I", Cond.fieldLink RX3 170 "SharedFibreModel" "frames" "I", Cond.fieldLink RX3 29 "SharedFibreModel" "cut" "[Z", Cond.fieldLink RX3 107 "SharedFibreModel" "active" "I", Cond.fieldLink RX3 133 "SharedFibreModel" "dark" "I", Cond.fieldLink RX3 129 "SharedFibreModel" "quiet" "Z", Cond.fieldLink RX3 7 "SharedFibreModel" "state" "[I", Cond.fieldLink RX3 25 "SharedFibreModel" "spoilt" "[Z", Cond.methodLink RX3 179 yX3_darkFrame, Cond.instanceMethod yX3_darkFrame, Cond.selects RX3 yX3_darkFrame yX3_darkFrame, Cond.initialized RX3, Cond.code yX3_darkFrame cX3_darkFrame 3 none, Cond.fieldLink RX3 22 "SharedFibreModel" "hold" "[I", Cond.methodLink RX3 110 yX3_extra, Cond.instanceMethod yX3_extra, Cond.selects RX3 yX3_extra yX3_extra, Cond.code yX3_extra cX3_extra 2 (some .int), Cond.methodLink RX3 182 yX3_quietFrame, Cond.instanceMethod yX3_quietFrame, Cond.selects RX3 yX3_quietFrame yX3_quietFrame, Cond.code yX3_quietFrame cX3_quietFrame 5 none, Cond.fieldLink RX3 19 "SharedFibreModel" "answered" "[I", Cond.methodLink RX3 140 yX3_window]
def wsX3_frame_r2 : List Cond := [Cond.instanceMethod yX3_window, Cond.selects RX3 yX3_window yX3_window, Cond.code yX3_window cX3_window 2 (some .int), Cond.fieldLink RX3 13 "SharedFibreModel" "serial" "[I", Cond.methodLink RX3 136 yX3_mix, Cond.instanceMethod yX3_mix, Cond.selects RX3 yX3_mix yX3_mix, Cond.code yX3_mix cX3_mix 4 (some .int), Cond.constant RX3 105 (625341585), Cond.constant RX3 106 (-1640531535), Cond.methodLink RX3 143 yX3_level, Cond.instanceMethod yX3_level, Cond.selects RX3 yX3_level yX3_level, Cond.code yX3_level cX3_level 2 none, Cond.fieldLink RX3 16 "SharedFibreModel" "way" "[I", Cond.methodLink RX3 185 yX3_look, Cond.instanceMethod yX3_look, Cond.selects RX3 yX3_look yX3_look, Cond.code yX3_look cX3_look 3 none, Cond.fieldLink RX3 149 "SharedFibreModel" "drifted" "I", Cond.methodLink RX3 146 yX3_errorOf, Cond.instanceMethod yX3_errorOf, Cond.selects RX3 yX3_errorOf yX3_errorOf, Cond.code yX3_errorOf cX3_errorOf 2 (some .int)]
def wsX3_frame_r3 : List Cond := [Cond.methodLink RX3 188 yX3_map, Cond.instanceMethod yX3_map, Cond.selects RX3 yX3_map yX3_map, Cond.code yX3_map cX3_map 4 none, Cond.fieldLink RX3 152 "SharedFibreModel" "free" "I", Cond.fieldLink RX3 65 "SharedFibreModel" "reported" "[I", Cond.fieldLink RX3 53 "SharedFibreModel" "fixed" "[I", Cond.fieldLink RX3 56 "SharedFibreModel" "assured" "[I", Cond.fieldLink RX3 68 "SharedFibreModel" "given" "[I", Cond.fieldLink RX3 71 "SharedFibreModel" "spare" "[I", Cond.fieldLink RX3 62 "SharedFibreModel" "weight" "[I", Cond.methodLink RX3 155 yX3_wants, Cond.instanceMethod yX3_wants, Cond.selects RX3 yX3_wants yX3_wants, Cond.code yX3_wants cX3_wants 2 (some .boolean), Cond.fieldLink RX3 59 "SharedFibreModel" "most" "[I", Cond.methodLink RX3 191 yX3_bursts, Cond.instanceMethod yX3_bursts, Cond.selects RX3 yX3_bursts yX3_bursts, Cond.code yX3_bursts cX3_bursts 5 none, Cond.fieldLink RX3 95 "SharedFibreModel" "start" "[I", Cond.fieldLink RX3 98 "SharedFibreModel" "span" "[I", Cond.fieldLink RX3 158 "SharedFibreModel" "met" "I", Cond.methodLink RX3 194 yX3_transport]
def wsX3_frame_r4 : List Cond := [Cond.instanceMethod yX3_transport, Cond.selects RX3 yX3_transport yX3_transport, Cond.code yX3_transport cX3_transport 4 (some .int), Cond.fieldLink RX3 74 "SharedFibreModel" "queued" "[I", Cond.methodLink RX3 173 yX3_sendBlock, Cond.instanceMethod yX3_sendBlock, Cond.selects RX3 yX3_sendBlock yX3_sendBlock, Cond.code yX3_sendBlock cX3_sendBlock 3 (some .boolean), Cond.fieldLink RX3 77 "SharedFibreModel" "queue" "[I", Cond.fieldLink RX3 80 "SharedFibreModel" "left" "[I", Cond.fieldLink RX3 83 "SharedFibreModel" "broken" "[Z", Cond.fieldLink RX3 164 "SharedFibreModel" "lost" "I", Cond.fieldLink RX3 86 "SharedFibreModel" "cameNumber" "[I", Cond.fieldLink RX3 167 "SharedFibreModel" "many" "I", Cond.fieldLink RX3 89 "SharedFibreModel" "cameFrom" "[I", Cond.fieldLink RX3 92 "SharedFibreModel" "cameFrame" "[I", Cond.methodLink RX3 161 yX3_leave, Cond.instanceMethod yX3_leave, Cond.selects RX3 yX3_leave yX3_leave, Cond.code yX3_leave cX3_leave 3 none, Cond.methodLink RX3 176 yX3_loadOf, Cond.instanceMethod yX3_loadOf, Cond.selects RX3 yX3_loadOf yX3_loadOf, Cond.code yX3_loadOf cX3_loadOf 4 (some .int)]
def wsX3_frame_r5 : List Cond := [Cond.methodLink RX3 197 yX3_keys, Cond.instanceMethod yX3_keys, Cond.selects RX3 yX3_keys yX3_keys, Cond.code yX3_keys cX3_keys 2 none, Cond.fieldLink RX3 41 "SharedFibreModel" "hasWord" "[Z", Cond.fieldLink RX3 50 "SharedFibreModel" "sentAs" "[I", Cond.fieldLink RX3 44 "SharedFibreModel" "word" "[I", Cond.fieldLink RX3 32 "SharedFibreModel" "inForce" "[I", Cond.fieldLink RX3 47 "SharedFibreModel" "made" "[I", Cond.fieldLink RX3 35 "SharedFibreModel" "waiting" "[I", Cond.fieldLink RX3 38 "SharedFibreModel" "told" "[I"]
def wsX3_frame : List Cond := .code yX3_frame cX3_frame 3 (some .int) :: ((wsX3_frame_r1 ++ (wsX3_frame_r2 ++ (wsX3_frame_r3 ++ (wsX3_frame_r4 ++ wsX3_frame_r5)))) ++ wsX30)
def wsX3_unit : List Cond := .code yX3_unit cX3_unit 3 (some .int) :: ([.fieldLink RX3 101 "SharedFibreModel" "thrown" "I", .fieldLink RX3 7 "SharedFibreModel" "state" "[I", .fieldLink RX3 32 "SharedFibreModel" "inForce" "[I", .fieldLink RX3 38 "SharedFibreModel" "told" "[I", .fieldLink RX3 47 "SharedFibreModel" "made" "[I", .fieldLink RX3 50 "SharedFibreModel" "sentAs" "[I", .fieldLink RX3 19 "SharedFibreModel" "answered" "[I", .methodLink RX3 146 yX3_errorOf, .instanceMethod yX3_errorOf, .selects RX3 yX3_errorOf yX3_errorOf, .initialized RX3, .code yX3_errorOf cX3_errorOf 2 (some .int), .fieldLink RX3 16 "SharedFibreModel" "way" "[I", .fieldLink RX3 107 "SharedFibreModel" "active" "I", .fieldLink RX3 22 "SharedFibreModel" "hold" "[I", .methodLink RX3 110 yX3_extra, .instanceMethod yX3_extra, .selects RX3 yX3_extra yX3_extra, .code yX3_extra cX3_extra 2 (some .int)] ++ wsX30)
def wsX3_container : List Cond := .code yX3_container cX3_container 5 (some .int) :: ([.fieldLink RX3 101 "SharedFibreModel" "thrown" "I", .fieldLink RX3 7 "SharedFibreModel" "state" "[I", .fieldLink RX3 65 "SharedFibreModel" "reported" "[I", .fieldLink RX3 68 "SharedFibreModel" "given" "[I", .fieldLink RX3 74 "SharedFibreModel" "queued" "[I", .methodLink RX3 176 yX3_loadOf, .instanceMethod yX3_loadOf, .selects RX3 yX3_loadOf yX3_loadOf, .initialized RX3, .code yX3_loadOf cX3_loadOf 4 (some .int), .fieldLink RX3 80 "SharedFibreModel" "left" "[I", .fieldLink RX3 77 "SharedFibreModel" "queue" "[I"] ++ wsX30)
def wsX3_came : List Cond := .code yX3_came cX3_came 3 (some .int) :: ([.fieldLink RX3 167 "SharedFibreModel" "many" "I", .fieldLink RX3 101 "SharedFibreModel" "thrown" "I", .fieldLink RX3 86 "SharedFibreModel" "cameNumber" "[I", .fieldLink RX3 89 "SharedFibreModel" "cameFrom" "[I", .fieldLink RX3 92 "SharedFibreModel" "cameFrame" "[I"] ++ wsX30)
def wsX3_count : List Cond := .code yX3_count cX3_count 2 (some .int) :: ([.fieldLink RX3 101 "SharedFibreModel" "thrown" "I", .fieldLink RX3 167 "SharedFibreModel" "many" "I", .fieldLink RX3 164 "SharedFibreModel" "lost" "I", .fieldLink RX3 170 "SharedFibreModel" "frames" "I", .fieldLink RX3 107 "SharedFibreModel" "active" "I", .fieldLink RX3 158 "SharedFibreModel" "met" "I", .fieldLink RX3 152 "SharedFibreModel" "free" "I", .fieldLink RX3 149 "SharedFibreModel" "drifted" "I"] ++ wsX30)
def wsJ9_abs_0f7a4 : List Cond := .code yJ9_abs_0f7a4 cJ9_abs_0f7a4 1 (some .int) :: ([])
def wsJ9_max_7cf53 : List Cond := .code yJ9_max_7cf53 cJ9_max_7cf53 2 (some .int) :: ([])
def wsJ9_min_7cf53 : List Cond := .code yJ9_min_7cf53 cJ9_min_7cf53 2 (some .int) :: ([])
def wsL_plug_r1 : List Cond := [Cond.classLink RL 13 "java/lang/IllegalArgumentException", Cond.classLink RL 15 "java/lang/IllegalStateException", Cond.methodLink RL 7 yX2_plug, Cond.instanceMethod yX2_plug, Cond.selects RX2 yX2_plug yX2_plug, Cond.initialized RX2, Cond.code yX2_plug cX2_plug 5 (some .int), Cond.classLink RX2 37 "java/lang/IllegalArgumentException", Cond.initialized "java/lang/IllegalArgumentException", Cond.classLink RX2 53 "java/lang/IllegalStateException", Cond.initialized "java/lang/IllegalStateException", Cond.fieldLink RX2 11 "SharedFibre" "units" "[LSharedFibre$Unit;", Cond.fieldLink RX2 58 "SharedFibre$Unit" "state" "I", Cond.fieldLink RX2 62 "SharedFibre$Unit" "serial" "I", Cond.fieldLink RX2 64 "SharedFibre$Unit" "way" "I", Cond.methodLink RX2 33 yX2_hasSerial, Cond.instanceMethod yX2_hasSerial, Cond.selects RX2 yX2_hasSerial yX2_hasSerial, Cond.code yX2_hasSerial cX2_hasSerial 6 (some .boolean), Cond.methodLink RX2 44 yX2_isWay, Cond.static yX2_isWay, Cond.code yX2_isWay cX2_isWay 1 (some .boolean), Cond.methodLink RX2 49 yX2_firstAway, Cond.instanceMethod yX2_firstAway]
def wsL_plug_r2 : List Cond := [Cond.selects RX2 yX2_firstAway yX2_firstAway, Cond.code yX2_firstAway cX2_firstAway 2 (some .int)]
def wsL_plug : List Cond := .codeWith yL_plug cL_plug 5 (some .int) [(0, 10, 13, 13), (0, 10, 17, 15)] :: ((wsL_plug_r1 ++ wsL_plug_r2) ++ wsX20 ++ wsX10 ++ (vx_atS RX2 41 "java/lang/IllegalArgumentException" ["java/lang/RuntimeException", "java/lang/Exception"]).filter goodWord ++ (vx_atS RX2 57 "java/lang/IllegalStateException" ["java/lang/RuntimeException", "java/lang/Exception"]).filter goodWord)
def wsL_unplug_r1 : List Cond := [Cond.classLink RL 13 "java/lang/IllegalArgumentException", Cond.methodLink RL 17 yX2_unplug, Cond.instanceMethod yX2_unplug, Cond.selects RX2 yX2_unplug yX2_unplug, Cond.initialized RX2, Cond.code yX2_unplug cX2_unplug 2 none, Cond.methodLink RX2 66 yX2_plugged, Cond.instanceMethod yX2_plugged, Cond.selects RX2 yX2_plugged yX2_plugged, Cond.code yX2_plugged cX2_plugged 3 (some (.object "SharedFibre$Unit")), Cond.classLink RX2 37 "java/lang/IllegalArgumentException", Cond.initialized "java/lang/IllegalArgumentException", Cond.fieldLink RX2 58 "SharedFibre$Unit" "state" "I", Cond.methodLink RX2 182 yX2_numbered, Cond.instanceMethod yX2_numbered, Cond.selects RX2 yX2_numbered yX2_numbered, Cond.code yX2_numbered cX2_numbered 2 (some (.object "SharedFibre$Unit")), Cond.fieldLink RX2 11 "SharedFibre" "units" "[LSharedFibre$Unit;", Cond.methodLink RX2 70 yX1_clear, Cond.instanceMethod yX1_clear, Cond.selects RX1 yX1_clear yX1_clear, Cond.initialized RX1, Cond.code yX1_clear cX1_clear 5 none, Cond.fieldLink RX1 18 "SharedFibre$Unit" "state" "I"]
def wsL_unplug_r2 : List Cond := [Cond.fieldLink RX1 22 "SharedFibre$Unit" "serial" "I", Cond.fieldLink RX1 25 "SharedFibre$Unit" "way" "I", Cond.fieldLink RX1 28 "SharedFibre$Unit" "answered" "I", Cond.fieldLink RX1 31 "SharedFibre$Unit" "error" "I", Cond.fieldLink RX1 34 "SharedFibre$Unit" "keyInForce" "I", Cond.fieldLink RX1 37 "SharedFibre$Unit" "keyWaits" "Z", Cond.fieldLink RX1 41 "SharedFibre$Unit" "waitingKey" "I", Cond.fieldLink RX1 44 "SharedFibre$Unit" "toldKey" "I", Cond.fieldLink RX1 47 "SharedFibre$Unit" "wordWaits" "Z", Cond.fieldLink RX1 50 "SharedFibre$Unit" "waitingWord" "I", Cond.fieldLink RX1 53 "SharedFibre$Unit" "madeOut" "I", Cond.fieldLink RX1 56 "SharedFibre$Unit" "sentAs" "I", Cond.fieldLink RX1 59 "SharedFibre$Unit" "spoilt" "Z", Cond.fieldLink RX1 11 "SharedFibre$Unit" "containers" "[LSharedFibre$Container;", Cond.methodLink RX1 62 yX0_clear, Cond.instanceMethod yX0_clear, Cond.selects RX0 yX0_clear yX0_clear, Cond.initialized RX0, Cond.code yX0_clear cX0_clear 1 none, Cond.fieldLink RX0 22 "SharedFibre$Container" "queued" "I", Cond.fieldLink RX0 25 "SharedFibre$Container" "firstHurt" "Z", Cond.fieldLink RX0 29 "SharedFibre$Container" "fixed" "I", Cond.fieldLink RX0 32 "SharedFibre$Container" "assured" "I", Cond.fieldLink RX0 35 "SharedFibre$Container" "most" "I"]
def wsL_unplug_r3 : List Cond := [Cond.fieldLink RX0 18 "SharedFibre$Container" "weight" "I", Cond.fieldLink RX0 38 "SharedFibre$Container" "reported" "I", Cond.fieldLink RX0 41 "SharedFibre$Container" "given" "I", Cond.fieldLink RX0 44 "SharedFibre$Container" "spare" "I"]
def wsL_unplug : List Cond := .codeWith yL_unplug cL_unplug 3 (some .int) [(0, 5, 8, 13)] :: ((wsL_unplug_r1 ++ (wsL_unplug_r2 ++ wsL_unplug_r3)) ++ wsX10 ++ wsX20 ++ wsX00 ++ (vx_atS RX2 41 "java/lang/IllegalArgumentException" ["java/lang/RuntimeException", "java/lang/Exception"]).filter goodWord)
def wsL_contract_r1 : List Cond := [Cond.classLink RL 13 "java/lang/IllegalArgumentException", Cond.classLink RL 15 "java/lang/IllegalStateException", Cond.methodLink RL 21 yX2_contract, Cond.instanceMethod yX2_contract, Cond.selects RX2 yX2_contract yX2_contract, Cond.initialized RX2, Cond.code yX2_contract cX2_contract 8 none, Cond.classLink RX2 37 "java/lang/IllegalArgumentException", Cond.initialized "java/lang/IllegalArgumentException", Cond.classLink RX2 53 "java/lang/IllegalStateException", Cond.initialized "java/lang/IllegalStateException", Cond.fieldLink RX2 84 "SharedFibre$Container" "fixed" "I", Cond.fieldLink RX2 89 "SharedFibre$Container" "assured" "I", Cond.fieldLink RX2 94 "SharedFibre$Container" "most" "I", Cond.fieldLink RX2 97 "SharedFibre$Container" "weight" "I", Cond.methodLink RX2 73 yX2_pluggedContainer, Cond.instanceMethod yX2_pluggedContainer, Cond.selects RX2 yX2_pluggedContainer yX2_pluggedContainer, Cond.code yX2_pluggedContainer cX2_pluggedContainer 3 (some (.object "SharedFibre$Container")), Cond.methodLink RX2 66 yX2_plugged, Cond.instanceMethod yX2_plugged, Cond.selects RX2 yX2_plugged yX2_plugged, Cond.code yX2_plugged cX2_plugged 3 (some (.object "SharedFibre$Unit")), Cond.fieldLink RX2 58 "SharedFibre$Unit" "state" "I"]
def wsL_contract_r2 : List Cond := [Cond.methodLink RX2 182 yX2_numbered, Cond.instanceMethod yX2_numbered, Cond.selects RX2 yX2_numbered yX2_numbered, Cond.code yX2_numbered cX2_numbered 2 (some (.object "SharedFibre$Unit")), Cond.fieldLink RX2 11 "SharedFibre" "units" "[LSharedFibre$Unit;", Cond.methodLink RX2 202 yX2_containerOf, Cond.static yX2_containerOf, Cond.code yX2_containerOf cX2_containerOf 2 (some (.object "SharedFibre$Container")), Cond.fieldLink RX2 240 "SharedFibre$Unit" "containers" "[LSharedFibre$Container;", Cond.methodLink RX2 81 yX2_contracted, Cond.instanceMethod yX2_contracted, Cond.selects RX2 yX2_contracted yX2_contracted, Cond.code yX2_contracted cX2_contracted 10 (some .int)]
def wsL_contract : List Cond := .codeWith yL_contract cL_contract 8 (some .int) [(0, 13, 16, 13), (0, 13, 20, 15)] :: ((wsL_contract_r1 ++ wsL_contract_r2) ++ wsX00 ++ wsX10 ++ wsX20 ++ (vx_atS RX2 41 "java/lang/IllegalArgumentException" ["java/lang/RuntimeException", "java/lang/Exception"]).filter goodWord ++ (vx_atS RX2 57 "java/lang/IllegalStateException" ["java/lang/RuntimeException", "java/lang/Exception"]).filter goodWord)
def wsL_drift : List Cond := .codeWith yL_drift cL_drift 4 (some .int) [(0, 6, 9, 13)] :: ([.classLink RL 13 "java/lang/IllegalArgumentException", .methodLink RL 25 yX2_drift, .instanceMethod yX2_drift, .selects RX2 yX2_drift yX2_drift, .initialized RX2, .code yX2_drift cX2_drift 4 none, .classLink RX2 37 "java/lang/IllegalArgumentException", .initialized "java/lang/IllegalArgumentException", .fieldLink RX2 64 "SharedFibre$Unit" "way" "I", .fieldLink RX2 58 "SharedFibre$Unit" "state" "I", .fieldLink RX2 101 "SharedFibre$Unit" "error" "I", .methodLink RX2 66 yX2_plugged, .instanceMethod yX2_plugged, .selects RX2 yX2_plugged yX2_plugged, .code yX2_plugged cX2_plugged 3 (some (.object "SharedFibre$Unit")), .methodLink RX2 182 yX2_numbered, .instanceMethod yX2_numbered, .selects RX2 yX2_numbered yX2_numbered, .code yX2_numbered cX2_numbered 2 (some (.object "SharedFibre$Unit")), .fieldLink RX2 11 "SharedFibre" "units" "[LSharedFibre$Unit;", .methodLink RX2 44 yX2_isWay, .static yX2_isWay, .code yX2_isWay cX2_isWay 1 (some .boolean)] ++ wsX10 ++ wsX20 ++ (vx_atS RX2 41 "java/lang/IllegalArgumentException" ["java/lang/RuntimeException", "java/lang/Exception"]).filter goodWord)
def wsL_send_r1 : List Cond := [Cond.classLink RL 13 "java/lang/IllegalArgumentException", Cond.classLink RL 15 "java/lang/IllegalStateException", Cond.methodLink RL 29 yX2_send, Cond.instanceMethod yX2_send, Cond.selects RX2 yX2_send yX2_send, Cond.initialized RX2, Cond.code yX2_send cX2_send 5 (some .int), Cond.classLink RX2 37 "java/lang/IllegalArgumentException", Cond.initialized "java/lang/IllegalArgumentException", Cond.classLink RX2 53 "java/lang/IllegalStateException", Cond.initialized "java/lang/IllegalStateException", Cond.fieldLink RX2 106 "SharedFibre$Container" "queued" "I", Cond.fieldLink RX2 109 "SharedFibre" "datagrams" "I", Cond.methodLink RX2 73 yX2_pluggedContainer, Cond.instanceMethod yX2_pluggedContainer, Cond.selects RX2 yX2_pluggedContainer yX2_pluggedContainer, Cond.code yX2_pluggedContainer cX2_pluggedContainer 3 (some (.object "SharedFibre$Container")), Cond.methodLink RX2 66 yX2_plugged, Cond.instanceMethod yX2_plugged, Cond.selects RX2 yX2_plugged yX2_plugged, Cond.code yX2_plugged cX2_plugged 3 (some (.object "SharedFibre$Unit")), Cond.fieldLink RX2 58 "SharedFibre$Unit" "state" "I", Cond.methodLink RX2 182 yX2_numbered, Cond.instanceMethod yX2_numbered]
def wsL_send_r2 : List Cond := [Cond.selects RX2 yX2_numbered yX2_numbered, Cond.code yX2_numbered cX2_numbered 2 (some (.object "SharedFibre$Unit")), Cond.fieldLink RX2 11 "SharedFibre" "units" "[LSharedFibre$Unit;", Cond.methodLink RX2 202 yX2_containerOf, Cond.static yX2_containerOf, Cond.code yX2_containerOf cX2_containerOf 2 (some (.object "SharedFibre$Container")), Cond.fieldLink RX2 240 "SharedFibre$Unit" "containers" "[LSharedFibre$Container;", Cond.methodLink RX2 114 yX0_append, Cond.instanceMethod yX0_append, Cond.selects RX0 yX0_append yX0_append, Cond.initialized RX0, Cond.code yX0_append cX0_append 3 none, Cond.fieldLink RX0 9 "SharedFibre$Container" "numbers" "[I", Cond.fieldLink RX0 22 "SharedFibre$Container" "queued" "I", Cond.fieldLink RX0 15 "SharedFibre$Container" "unsent" "[I"]
def wsL_send : List Cond := .codeWith yL_send cL_send 6 (some .int) [(0, 12, 15, 13), (0, 12, 19, 15)] :: ((wsL_send_r1 ++ wsL_send_r2) ++ wsX00 ++ wsX20 ++ wsX10 ++ (vx_atS RX2 41 "java/lang/IllegalArgumentException" ["java/lang/RuntimeException", "java/lang/Exception"]).filter goodWord ++ (vx_atS RX2 57 "java/lang/IllegalStateException" ["java/lang/RuntimeException", "java/lang/Exception"]).filter goodWord)
def wsL_key : List Cond := .codeWith yL_key cL_key 4 (some .int) [(0, 6, 9, 13), (0, 6, 12, 15)] :: ([.classLink RL 13 "java/lang/IllegalArgumentException", .classLink RL 15 "java/lang/IllegalStateException", .methodLink RL 33 yX2_key, .instanceMethod yX2_key, .selects RX2 yX2_key yX2_key, .initialized RX2, .code yX2_key cX2_key 4 none, .classLink RX2 37 "java/lang/IllegalArgumentException", .initialized "java/lang/IllegalArgumentException", .classLink RX2 53 "java/lang/IllegalStateException", .initialized "java/lang/IllegalStateException", .fieldLink RX2 120 "SharedFibre$Unit" "keyWaits" "Z", .fieldLink RX2 126 "SharedFibre$Unit" "waitingKey" "I", .methodLink RX2 66 yX2_plugged, .instanceMethod yX2_plugged, .selects RX2 yX2_plugged yX2_plugged, .code yX2_plugged cX2_plugged 3 (some (.object "SharedFibre$Unit")), .fieldLink RX2 58 "SharedFibre$Unit" "state" "I", .methodLink RX2 182 yX2_numbered, .instanceMethod yX2_numbered, .selects RX2 yX2_numbered yX2_numbered, .code yX2_numbered cX2_numbered 2 (some (.object "SharedFibre$Unit")), .fieldLink RX2 11 "SharedFibre" "units" "[LSharedFibre$Unit;"] ++ wsX10 ++ wsX20 ++ (vx_atS RX2 41 "java/lang/IllegalArgumentException" ["java/lang/RuntimeException", "java/lang/Exception"]).filter goodWord ++ (vx_atS RX2 57 "java/lang/IllegalStateException" ["java/lang/RuntimeException", "java/lang/Exception"]).filter goodWord)
def wsL_down : List Cond := .codeWith yL_down cL_down 4 (some .int) [(0, 6, 9, 13)] :: ([.classLink RL 13 "java/lang/IllegalArgumentException", .methodLink RL 36 yX2_down, .instanceMethod yX2_down, .selects RX2 yX2_down yX2_down, .initialized RX2, .code yX2_down cX2_down 4 none, .fieldLink RX2 129 "SharedFibre$Unit" "wordWaits" "Z", .fieldLink RX2 132 "SharedFibre$Unit" "waitingWord" "I", .methodLink RX2 66 yX2_plugged, .instanceMethod yX2_plugged, .selects RX2 yX2_plugged yX2_plugged, .code yX2_plugged cX2_plugged 3 (some (.object "SharedFibre$Unit")), .classLink RX2 37 "java/lang/IllegalArgumentException", .initialized "java/lang/IllegalArgumentException", .fieldLink RX2 58 "SharedFibre$Unit" "state" "I", .methodLink RX2 182 yX2_numbered, .instanceMethod yX2_numbered, .selects RX2 yX2_numbered yX2_numbered, .code yX2_numbered cX2_numbered 2 (some (.object "SharedFibre$Unit")), .fieldLink RX2 11 "SharedFibre" "units" "[LSharedFibre$Unit;"] ++ wsX10 ++ wsX20 ++ (vx_atS RX2 41 "java/lang/IllegalArgumentException" ["java/lang/RuntimeException", "java/lang/Exception"]).filter goodWord)
def wsL_spoil : List Cond := .codeWith yL_spoil cL_spoil 3 (some .int) [(0, 5, 8, 13)] :: ([.classLink RL 13 "java/lang/IllegalArgumentException", .methodLink RL 39 yX2_spoil, .instanceMethod yX2_spoil, .selects RX2 yX2_spoil yX2_spoil, .initialized RX2, .code yX2_spoil cX2_spoil 2 none, .fieldLink RX2 135 "SharedFibre$Unit" "spoilt" "Z", .methodLink RX2 66 yX2_plugged, .instanceMethod yX2_plugged, .selects RX2 yX2_plugged yX2_plugged, .code yX2_plugged cX2_plugged 3 (some (.object "SharedFibre$Unit")), .classLink RX2 37 "java/lang/IllegalArgumentException", .initialized "java/lang/IllegalArgumentException", .fieldLink RX2 58 "SharedFibre$Unit" "state" "I", .methodLink RX2 182 yX2_numbered, .instanceMethod yX2_numbered, .selects RX2 yX2_numbered yX2_numbered, .code yX2_numbered cX2_numbered 2 (some (.object "SharedFibre$Unit")), .fieldLink RX2 11 "SharedFibre" "units" "[LSharedFibre$Unit;"] ++ wsX10 ++ wsX20 ++ (vx_atS RX2 41 "java/lang/IllegalArgumentException" ["java/lang/RuntimeException", "java/lang/Exception"]).filter goodWord)
def wsL_feeder : List Cond := .codeWith yL_feeder cL_feeder 4 (some .int) [(0, 6, 9, 13)] :: ([.classLink RL 13 "java/lang/IllegalArgumentException", .methodLink RL 42 yX2_feeder, .instanceMethod yX2_feeder, .selects RX2 yX2_feeder yX2_feeder, .initialized RX2, .code yX2_feeder cX2_feeder 3 none, .classLink RX2 37 "java/lang/IllegalArgumentException", .initialized "java/lang/IllegalArgumentException", .fieldLink RX2 15 "SharedFibre" "cut" "[Z"] ++ wsX20 ++ (vx_atS RX2 41 "java/lang/IllegalArgumentException" ["java/lang/RuntimeException", "java/lang/Exception"]).filter goodWord)
def wsL_unit : List Cond := .codeWith yL_unit cL_unit 5 (some .int) [(0, 10, 13, 13)] :: ([.classLink RL 13 "java/lang/IllegalArgumentException", .methodLink RL 46 yX2_unit, .instanceMethod yX2_unit, .selects RX2 yX2_unit yX2_unit, .initialized RX2, .code yX2_unit cX2_unit 4 (some .int), .classLink RX2 37 "java/lang/IllegalArgumentException", .initialized "java/lang/IllegalArgumentException", .fieldLink RX2 58 "SharedFibre$Unit" "state" "I", .fieldLink RX2 101 "SharedFibre$Unit" "error" "I", .fieldLink RX2 185 "SharedFibre$Unit" "keyInForce" "I", .fieldLink RX2 188 "SharedFibre$Unit" "toldKey" "I", .fieldLink RX2 191 "SharedFibre$Unit" "madeOut" "I", .fieldLink RX2 194 "SharedFibre$Unit" "sentAs" "I", .fieldLink RX2 197 "SharedFibre$Unit" "answered" "I", .methodLink RX2 182 yX2_numbered, .instanceMethod yX2_numbered, .selects RX2 yX2_numbered yX2_numbered, .code yX2_numbered cX2_numbered 2 (some (.object "SharedFibre$Unit")), .fieldLink RX2 11 "SharedFibre" "units" "[LSharedFibre$Unit;"] ++ wsX10 ++ wsX20 ++ (vx_atS RX2 41 "java/lang/IllegalArgumentException" ["java/lang/RuntimeException", "java/lang/Exception"]).filter goodWord)
def wsL_container_r1 : List Cond := [Cond.classLink RL 13 "java/lang/IllegalArgumentException", Cond.methodLink RL 49 yX2_container, Cond.instanceMethod yX2_container, Cond.selects RX2 yX2_container yX2_container, Cond.initialized RX2, Cond.code yX2_container cX2_container 5 (some .int), Cond.classLink RX2 37 "java/lang/IllegalArgumentException", Cond.initialized "java/lang/IllegalArgumentException", Cond.fieldLink RX2 209 "SharedFibre$Container" "reported" "I", Cond.fieldLink RX2 212 "SharedFibre$Container" "given" "I", Cond.fieldLink RX2 106 "SharedFibre$Container" "queued" "I", Cond.methodLink RX2 182 yX2_numbered, Cond.instanceMethod yX2_numbered, Cond.selects RX2 yX2_numbered yX2_numbered, Cond.code yX2_numbered cX2_numbered 2 (some (.object "SharedFibre$Unit")), Cond.fieldLink RX2 11 "SharedFibre" "units" "[LSharedFibre$Unit;", Cond.methodLink RX2 202 yX2_containerOf, Cond.static yX2_containerOf, Cond.code yX2_containerOf cX2_containerOf 2 (some (.object "SharedFibre$Container")), Cond.fieldLink RX2 240 "SharedFibre$Unit" "containers" "[LSharedFibre$Container;", Cond.methodLink RX2 206 yX0_load, Cond.instanceMethod yX0_load, Cond.selects RX0 yX0_load yX0_load, Cond.initialized RX0]
def wsL_container_r2 : List Cond := [Cond.code yX0_load cX0_load 3 (some .int), Cond.fieldLink RX0 22 "SharedFibre$Container" "queued" "I", Cond.fieldLink RX0 15 "SharedFibre$Container" "unsent" "[I"]
def wsL_container : List Cond := .codeWith yL_container cL_container 6 (some .int) [(0, 12, 15, 13)] :: ((wsL_container_r1 ++ wsL_container_r2) ++ wsX00 ++ wsX20 ++ wsX10 ++ (vx_atS RX2 41 "java/lang/IllegalArgumentException" ["java/lang/RuntimeException", "java/lang/Exception"]).filter goodWord)
def wsL_came : List Cond := .codeWith yL_came cL_came 5 (some .int) [(0, 10, 13, 55), (0, 10, 17, 13)] :: ([.classLink RL 55 "java/lang/IndexOutOfBoundsException", .classLink RL 13 "java/lang/IllegalArgumentException", .methodLink RL 52 yX2_came, .instanceMethod yX2_came, .selects RX2 yX2_came yX2_came, .initialized RX2, .code yX2_came cX2_came 3 (some .int), .classLink RX2 215 "java/lang/IndexOutOfBoundsException", .initialized "java/lang/IndexOutOfBoundsException", .classLink RX2 37 "java/lang/IllegalArgumentException", .initialized "java/lang/IllegalArgumentException", .fieldLink RX2 158 "SharedFibre" "arrived" "I", .fieldLink RX2 19 "SharedFibre" "arrivals" "[I"] ++ wsX20 ++ (vx_atS RX2 219 "java/lang/IndexOutOfBoundsException" ["java/lang/RuntimeException", "java/lang/Exception"]).filter goodWord ++ (vx_atS RX2 41 "java/lang/IllegalArgumentException" ["java/lang/RuntimeException", "java/lang/Exception"]).filter goodWord)
def wsL_count : List Cond := .codeWith yL_count cL_count 4 (some .int) [(0, 9, 12, 13)] :: ([.classLink RL 13 "java/lang/IllegalArgumentException", .methodLink RL 57 yX2_count, .instanceMethod yX2_count, .selects RX2 yX2_count yX2_count, .initialized RX2, .code yX2_count cX2_count 2 (some .int), .classLink RX2 37 "java/lang/IllegalArgumentException", .initialized "java/lang/IllegalArgumentException", .fieldLink RX2 158 "SharedFibre" "arrived" "I", .fieldLink RX2 220 "SharedFibre" "lost" "I", .fieldLink RX2 143 "SharedFibre" "frames" "I", .fieldLink RX2 146 "SharedFibre" "active" "I", .fieldLink RX2 223 "SharedFibre" "met" "I", .fieldLink RX2 226 "SharedFibre" "notGiven" "I", .fieldLink RX2 229 "SharedFibre" "strayed" "I"] ++ wsX20 ++ (vx_atS RX2 41 "java/lang/IllegalArgumentException" ["java/lang/RuntimeException", "java/lang/Exception"]).filter goodWord)
def wsL_law0_r1 : List Cond := [Cond.classLink RL 8 RX2, Cond.instantiable RX2 16, Cond.initialized RX2, Cond.classLink RL 62 RX3, Cond.instantiable RX3 41, Cond.initialized RX3, Cond.arrayClass .long, Cond.methodLink RL 61 yX2_init, Cond.instanceMethod yX2_init, Cond.code yX2_init cX2_init 2 none, Cond.methodLink RX2 1 objectInit, Cond.instanceMethod objectInit, Cond.code objectInit ⟨#[0xb1]⟩ 1 none, Cond.classLink RX2 9 RX1, Cond.fieldLink RX2 11 "SharedFibre" "units" "[LSharedFibre$Unit;", Cond.arrayClass .boolean, Cond.fieldLink RX2 15 "SharedFibre" "cut" "[Z", Cond.arrayClass .int, Cond.fieldLink RX2 19 "SharedFibre" "arrivals" "[I", Cond.fieldLink RX2 23 "SharedFibre" "answersIn" "[I", Cond.fieldLink RX2 26 "SharedFibre" "burstStart" "[I", Cond.fieldLink RX2 29 "SharedFibre" "burstEnd" "[I", Cond.instantiable RX1 15, Cond.initialized RX1]
def wsL_law0_r2 : List Cond := [Cond.methodLink RX2 32 yX1_init, Cond.instanceMethod yX1_init, Cond.code yX1_init cX1_init 2 none, Cond.methodLink RX1 3 objectInit, Cond.classLink RX1 9 RX0, Cond.fieldLink RX1 11 "SharedFibre$Unit" "containers" "[LSharedFibre$Container;", Cond.instantiable RX0 11, Cond.initialized RX0, Cond.instanceMethod yX0_init, Cond.code yX0_init cX0_init 1 none, Cond.methodLink RX0 3 objectInit, Cond.fieldLink RX0 9 "SharedFibre$Container" "numbers" "[I", Cond.fieldLink RX0 15 "SharedFibre$Container" "unsent" "[I", Cond.fieldLink RX0 18 "SharedFibre$Container" "weight" "I", Cond.methodLink RL 64 yX3_init, Cond.instanceMethod yX3_init, Cond.code yX3_init cX3_init 1 none, Cond.methodLink RX3 1 objectInit, Cond.fieldLink RX3 7 "SharedFibreModel" "state" "[I", Cond.fieldLink RX3 13 "SharedFibreModel" "serial" "[I", Cond.fieldLink RX3 16 "SharedFibreModel" "way" "[I", Cond.fieldLink RX3 19 "SharedFibreModel" "answered" "[I", Cond.fieldLink RX3 22 "SharedFibreModel" "hold" "[I", Cond.fieldLink RX3 25 "SharedFibreModel" "spoilt" "[Z"]
def wsL_law0_r3 : List Cond := [Cond.fieldLink RX3 29 "SharedFibreModel" "cut" "[Z", Cond.fieldLink RX3 32 "SharedFibreModel" "inForce" "[I", Cond.fieldLink RX3 35 "SharedFibreModel" "waiting" "[I", Cond.fieldLink RX3 38 "SharedFibreModel" "told" "[I", Cond.fieldLink RX3 41 "SharedFibreModel" "hasWord" "[Z", Cond.fieldLink RX3 44 "SharedFibreModel" "word" "[I", Cond.fieldLink RX3 47 "SharedFibreModel" "made" "[I", Cond.fieldLink RX3 50 "SharedFibreModel" "sentAs" "[I", Cond.fieldLink RX3 53 "SharedFibreModel" "fixed" "[I", Cond.fieldLink RX3 56 "SharedFibreModel" "assured" "[I", Cond.fieldLink RX3 59 "SharedFibreModel" "most" "[I", Cond.fieldLink RX3 62 "SharedFibreModel" "weight" "[I", Cond.fieldLink RX3 65 "SharedFibreModel" "reported" "[I", Cond.fieldLink RX3 68 "SharedFibreModel" "given" "[I", Cond.fieldLink RX3 71 "SharedFibreModel" "spare" "[I", Cond.fieldLink RX3 74 "SharedFibreModel" "queued" "[I", Cond.fieldLink RX3 77 "SharedFibreModel" "queue" "[I", Cond.fieldLink RX3 80 "SharedFibreModel" "left" "[I", Cond.fieldLink RX3 83 "SharedFibreModel" "broken" "[Z", Cond.fieldLink RX3 86 "SharedFibreModel" "cameNumber" "[I", Cond.fieldLink RX3 89 "SharedFibreModel" "cameFrom" "[I", Cond.fieldLink RX3 92 "SharedFibreModel" "cameFrame" "[I", Cond.fieldLink RX3 95 "SharedFibreModel" "start" "[I", Cond.fieldLink RX3 98 "SharedFibreModel" "span" "[I"]
def wsL_law0_r4 : List Cond := [Cond.methodLink RL 65 yL_plug, Cond.static yL_plug, Cond.initialized RL, Cond.codeWith yL_plug cL_plug 5 (some .int) [(0, 10, 13, 13), (0, 10, 17, 15)], Cond.classLink RL 13 "java/lang/IllegalArgumentException", Cond.classLink RL 15 "java/lang/IllegalStateException", Cond.methodLink RL 7 yX2_plug, Cond.instanceMethod yX2_plug, Cond.selects RX2 yX2_plug yX2_plug, Cond.code yX2_plug cX2_plug 5 (some .int), Cond.classLink RX2 37 "java/lang/IllegalArgumentException", Cond.initialized "java/lang/IllegalArgumentException", Cond.classLink RX2 53 "java/lang/IllegalStateException", Cond.initialized "java/lang/IllegalStateException", Cond.fieldLink RX2 58 "SharedFibre$Unit" "state" "I", Cond.fieldLink RX2 62 "SharedFibre$Unit" "serial" "I", Cond.fieldLink RX2 64 "SharedFibre$Unit" "way" "I", Cond.methodLink RX2 33 yX2_hasSerial, Cond.instanceMethod yX2_hasSerial, Cond.selects RX2 yX2_hasSerial yX2_hasSerial, Cond.code yX2_hasSerial cX2_hasSerial 6 (some .boolean), Cond.methodLink RX2 44 yX2_isWay, Cond.static yX2_isWay, Cond.code yX2_isWay cX2_isWay 1 (some .boolean)]
def wsL_law0_r5 : List Cond := [Cond.methodLink RX2 49 yX2_firstAway, Cond.instanceMethod yX2_firstAway, Cond.selects RX2 yX2_firstAway yX2_firstAway, Cond.code yX2_firstAway cX2_firstAway 2 (some .int), Cond.methodLink RL 70 yX3_plug, Cond.instanceMethod yX3_plug, Cond.selects RX3 yX3_plug yX3_plug, Cond.code yX3_plug cX3_plug 6 (some .int), Cond.fieldLink RX3 101 "SharedFibreModel" "thrown" "I", Cond.methodLink RX3 114 yX3_empty, Cond.instanceMethod yX3_empty, Cond.selects RX3 yX3_empty yX3_empty, Cond.code yX3_empty cX3_empty 2 none, Cond.methodLink RL 71 yX3_thrown, Cond.instanceMethod yX3_thrown, Cond.selects RX3 yX3_thrown yX3_thrown, Cond.code yX3_thrown cX3_thrown 1 (some .int), Cond.methodLink RL 75 yL_unplug, Cond.static yL_unplug, Cond.codeWith yL_unplug cL_unplug 3 (some .int) [(0, 5, 8, 13)], Cond.methodLink RL 17 yX2_unplug, Cond.instanceMethod yX2_unplug, Cond.selects RX2 yX2_unplug yX2_unplug, Cond.code yX2_unplug cX2_unplug 2 none]
def wsL_law0_r6 : List Cond := [Cond.methodLink RX2 66 yX2_plugged, Cond.instanceMethod yX2_plugged, Cond.selects RX2 yX2_plugged yX2_plugged, Cond.code yX2_plugged cX2_plugged 3 (some (.object "SharedFibre$Unit")), Cond.methodLink RX2 182 yX2_numbered, Cond.instanceMethod yX2_numbered, Cond.selects RX2 yX2_numbered yX2_numbered, Cond.code yX2_numbered cX2_numbered 2 (some (.object "SharedFibre$Unit")), Cond.methodLink RX2 70 yX1_clear, Cond.instanceMethod yX1_clear, Cond.selects RX1 yX1_clear yX1_clear, Cond.code yX1_clear cX1_clear 5 none, Cond.fieldLink RX1 18 "SharedFibre$Unit" "state" "I", Cond.fieldLink RX1 22 "SharedFibre$Unit" "serial" "I", Cond.fieldLink RX1 25 "SharedFibre$Unit" "way" "I", Cond.fieldLink RX1 28 "SharedFibre$Unit" "answered" "I", Cond.fieldLink RX1 31 "SharedFibre$Unit" "error" "I", Cond.fieldLink RX1 34 "SharedFibre$Unit" "keyInForce" "I", Cond.fieldLink RX1 37 "SharedFibre$Unit" "keyWaits" "Z", Cond.fieldLink RX1 41 "SharedFibre$Unit" "waitingKey" "I", Cond.fieldLink RX1 44 "SharedFibre$Unit" "toldKey" "I", Cond.fieldLink RX1 47 "SharedFibre$Unit" "wordWaits" "Z", Cond.fieldLink RX1 50 "SharedFibre$Unit" "waitingWord" "I", Cond.fieldLink RX1 53 "SharedFibre$Unit" "madeOut" "I"]
def wsL_law0_r7 : List Cond := [Cond.fieldLink RX1 56 "SharedFibre$Unit" "sentAs" "I", Cond.fieldLink RX1 59 "SharedFibre$Unit" "spoilt" "Z", Cond.methodLink RX1 62 yX0_clear, Cond.instanceMethod yX0_clear, Cond.selects RX0 yX0_clear yX0_clear, Cond.code yX0_clear cX0_clear 1 none, Cond.fieldLink RX0 22 "SharedFibre$Container" "queued" "I", Cond.fieldLink RX0 25 "SharedFibre$Container" "firstHurt" "Z", Cond.fieldLink RX0 29 "SharedFibre$Container" "fixed" "I", Cond.fieldLink RX0 32 "SharedFibre$Container" "assured" "I", Cond.fieldLink RX0 35 "SharedFibre$Container" "most" "I", Cond.fieldLink RX0 38 "SharedFibre$Container" "reported" "I", Cond.fieldLink RX0 41 "SharedFibre$Container" "given" "I", Cond.fieldLink RX0 44 "SharedFibre$Container" "spare" "I", Cond.methodLink RL 78 yX3_unplug, Cond.instanceMethod yX3_unplug, Cond.selects RX3 yX3_unplug yX3_unplug, Cond.code yX3_unplug cX3_unplug 2 none, Cond.methodLink RX3 118 yX3_isAway, Cond.instanceMethod yX3_isAway, Cond.selects RX3 yX3_isAway yX3_isAway, Cond.code yX3_isAway cX3_isAway 2 (some .boolean), Cond.methodLink RL 79 yL_contract, Cond.static yL_contract]
def wsL_law0_r8 : List Cond := [Cond.codeWith yL_contract cL_contract 8 (some .int) [(0, 13, 16, 13), (0, 13, 20, 15)], Cond.methodLink RL 21 yX2_contract, Cond.instanceMethod yX2_contract, Cond.selects RX2 yX2_contract yX2_contract, Cond.code yX2_contract cX2_contract 8 none, Cond.fieldLink RX2 84 "SharedFibre$Container" "fixed" "I", Cond.fieldLink RX2 89 "SharedFibre$Container" "assured" "I", Cond.fieldLink RX2 94 "SharedFibre$Container" "most" "I", Cond.fieldLink RX2 97 "SharedFibre$Container" "weight" "I", Cond.methodLink RX2 73 yX2_pluggedContainer, Cond.instanceMethod yX2_pluggedContainer, Cond.selects RX2 yX2_pluggedContainer yX2_pluggedContainer, Cond.code yX2_pluggedContainer cX2_pluggedContainer 3 (some (.object "SharedFibre$Container")), Cond.methodLink RX2 202 yX2_containerOf, Cond.static yX2_containerOf, Cond.code yX2_containerOf cX2_containerOf 2 (some (.object "SharedFibre$Container")), Cond.fieldLink RX2 240 "SharedFibre$Unit" "containers" "[LSharedFibre$Container;", Cond.methodLink RX2 81 yX2_contracted, Cond.instanceMethod yX2_contracted, Cond.selects RX2 yX2_contracted yX2_contracted, Cond.code yX2_contracted cX2_contracted 10 (some .int), Cond.methodLink RL 82 yX3_contract, Cond.instanceMethod yX3_contract, Cond.selects RX3 yX3_contract yX3_contract]
def wsL_law0_r9 : List Cond := [Cond.code yX3_contract cX3_contract 10 none, Cond.methodLink RX3 122 yX3_noContainer, Cond.instanceMethod yX3_noContainer, Cond.selects RX3 yX3_noContainer yX3_noContainer, Cond.code yX3_noContainer cX3_noContainer 3 (some .boolean), Cond.methodLink RL 83 yL_drift, Cond.static yL_drift, Cond.codeWith yL_drift cL_drift 4 (some .int) [(0, 6, 9, 13)], Cond.methodLink RL 25 yX2_drift, Cond.instanceMethod yX2_drift, Cond.selects RX2 yX2_drift yX2_drift, Cond.code yX2_drift cX2_drift 4 none, Cond.fieldLink RX2 101 "SharedFibre$Unit" "error" "I", Cond.methodLink RL 86 yX3_drift, Cond.instanceMethod yX3_drift, Cond.selects RX3 yX3_drift yX3_drift, Cond.code yX3_drift cX3_drift 4 none, Cond.methodLink RL 87 yL_send, Cond.static yL_send, Cond.codeWith yL_send cL_send 6 (some .int) [(0, 12, 15, 13), (0, 12, 19, 15)], Cond.methodLink RL 29 yX2_send, Cond.instanceMethod yX2_send, Cond.selects RX2 yX2_send yX2_send, Cond.code yX2_send cX2_send 5 (some .int)]
def wsL_law0_r10 : List Cond := [Cond.fieldLink RX2 106 "SharedFibre$Container" "queued" "I", Cond.fieldLink RX2 109 "SharedFibre" "datagrams" "I", Cond.methodLink RX2 114 yX0_append, Cond.instanceMethod yX0_append, Cond.selects RX0 yX0_append yX0_append, Cond.code yX0_append cX0_append 3 none, Cond.methodLink RL 90 yX3_send, Cond.instanceMethod yX3_send, Cond.selects RX3 yX3_send yX3_send, Cond.code yX3_send cX3_send 5 (some .int), Cond.fieldLink RX3 126 "SharedFibreModel" "datagrams" "I", Cond.methodLink RL 91 yL_key, Cond.static yL_key, Cond.codeWith yL_key cL_key 4 (some .int) [(0, 6, 9, 13), (0, 6, 12, 15)], Cond.methodLink RL 33 yX2_key, Cond.instanceMethod yX2_key, Cond.selects RX2 yX2_key yX2_key, Cond.code yX2_key cX2_key 4 none, Cond.fieldLink RX2 120 "SharedFibre$Unit" "keyWaits" "Z", Cond.fieldLink RX2 126 "SharedFibre$Unit" "waitingKey" "I", Cond.methodLink RL 93 yX3_key, Cond.instanceMethod yX3_key, Cond.selects RX3 yX3_key yX3_key, Cond.code yX3_key cX3_key 3 none]
def wsL_law0_r11 : List Cond := [Cond.methodLink RL 94 yL_down, Cond.static yL_down, Cond.codeWith yL_down cL_down 4 (some .int) [(0, 6, 9, 13)], Cond.methodLink RL 36 yX2_down, Cond.instanceMethod yX2_down, Cond.selects RX2 yX2_down yX2_down, Cond.code yX2_down cX2_down 4 none, Cond.fieldLink RX2 129 "SharedFibre$Unit" "wordWaits" "Z", Cond.fieldLink RX2 132 "SharedFibre$Unit" "waitingWord" "I", Cond.methodLink RL 96 yX3_down, Cond.instanceMethod yX3_down, Cond.selects RX3 yX3_down yX3_down, Cond.code yX3_down cX3_down 3 none, Cond.methodLink RL 97 yL_spoil, Cond.static yL_spoil, Cond.codeWith yL_spoil cL_spoil 3 (some .int) [(0, 5, 8, 13)], Cond.methodLink RL 39 yX2_spoil, Cond.instanceMethod yX2_spoil, Cond.selects RX2 yX2_spoil yX2_spoil, Cond.code yX2_spoil cX2_spoil 2 none, Cond.fieldLink RX2 135 "SharedFibre$Unit" "spoilt" "Z", Cond.methodLink RL 99 yX3_spoil, Cond.instanceMethod yX3_spoil, Cond.selects RX3 yX3_spoil yX3_spoil]
def wsL_law0_r12 : List Cond := [Cond.code yX3_spoil cX3_spoil 2 none, Cond.methodLink RL 100 yL_feeder, Cond.static yL_feeder, Cond.codeWith yL_feeder cL_feeder 4 (some .int) [(0, 6, 9, 13)], Cond.methodLink RL 42 yX2_feeder, Cond.instanceMethod yX2_feeder, Cond.selects RX2 yX2_feeder yX2_feeder, Cond.code yX2_feeder cX2_feeder 3 none, Cond.methodLink RL 103 yX3_feeder, Cond.instanceMethod yX3_feeder, Cond.selects RX3 yX3_feeder yX3_feeder, Cond.code yX3_feeder cX3_feeder 3 none, Cond.methodLink RL 104 yX2_discover, Cond.instanceMethod yX2_discover, Cond.selects RX2 yX2_discover yX2_discover, Cond.code yX2_discover cX2_discover 1 none, Cond.fieldLink RX2 140 "SharedFibre" "quietAsked" "Z", Cond.methodLink RL 107 yX3_discover, Cond.instanceMethod yX3_discover, Cond.selects RX3 yX3_discover yX3_discover, Cond.code yX3_discover cX3_discover 1 none, Cond.fieldLink RX3 129 "SharedFibreModel" "quiet" "Z", Cond.methodLink RL 108 yX2_frame, Cond.instanceMethod yX2_frame]
def wsL_law0_r13 : List Cond := [Cond.selects RX2 yX2_frame yX2_frame, Cond.code yX2_frame cX2_frame 2 (some .int), Cond.fieldLink RX2 143 "SharedFibre" "frames" "I", Cond.fieldLink RX2 146 "SharedFibre" "active" "I", Cond.fieldLink RX2 152 "SharedFibre" "darkInRow" "I", Cond.fieldLink RX2 158 "SharedFibre" "arrived" "I", Cond.methodLink RX2 149 yX2_passDark, Cond.instanceMethod yX2_passDark, Cond.selects RX2 yX2_passDark yX2_passDark, Cond.code yX2_passDark cX2_passDark 2 none, Cond.methodLink RX2 155 yX2_passQuiet, Cond.instanceMethod yX2_passQuiet, Cond.selects RX2 yX2_passQuiet yX2_passQuiet, Cond.code yX2_passQuiet cX2_passQuiet 5 none, Cond.fieldLink RX2 197 "SharedFibre$Unit" "answered" "I", Cond.methodLink RX2 244 yX1_answerWindow, Cond.instanceMethod yX1_answerWindow, Cond.selects RX1 yX1_answerWindow yX1_answerWindow, Cond.code yX1_answerWindow cX1_answerWindow 1 (some .int), Cond.static yX2_mix, Cond.code yX2_mix cX2_mix 3 (some .int), Cond.constant RX2 315 (625341585), Cond.constant RX2 316 (-1640531535), Cond.methodLink RX2 161 yX2_watchErrors]
def wsL_law0_r14 : List Cond := [Cond.instanceMethod yX2_watchErrors, Cond.selects RX2 yX2_watchErrors yX2_watchErrors, Cond.code yX2_watchErrors cX2_watchErrors 6 none, Cond.methodLink RX2 247 Lib.Math.abs.name, Cond.static Lib.Math.abs.name, Cond.initialized "java/lang/Math", Cond.code Lib.Math.abs.name Lib.Math.abs.code 1 (some .int), Cond.fieldLink RX2 229 "SharedFibre" "strayed" "I", Cond.methodLink RX2 164 yX2_makeMap, Cond.instanceMethod yX2_makeMap, Cond.selects RX2 yX2_makeMap yX2_makeMap, Cond.code yX2_makeMap cX2_makeMap 11 none, Cond.fieldLink RX2 212 "SharedFibre$Container" "given" "I", Cond.fieldLink RX2 226 "SharedFibre" "notGiven" "I", Cond.methodLink RX2 253 yX0_giveContracted, Cond.instanceMethod yX0_giveContracted, Cond.selects RX0 yX0_giveContracted yX0_giveContracted, Cond.code yX0_giveContracted cX0_giveContracted 2 none, Cond.methodLink RX0 47 Lib.Math.max.name, Cond.static Lib.Math.max.name, Cond.code Lib.Math.max.name Lib.Math.max.code 2 (some .int), Cond.methodLink RX0 53 Lib.Math.min.name, Cond.static Lib.Math.min.name, Cond.code Lib.Math.min.name Lib.Math.min.code 2 (some .int)]
def wsL_law0_r15 : List Cond := [Cond.methodLink RX2 257 yX2_giveSpare, Cond.instanceMethod yX2_giveSpare, Cond.selects RX2 yX2_giveSpare yX2_giveSpare, Cond.code yX2_giveSpare cX2_giveSpare 4 (some .int), Cond.fieldLink RX2 264 "SharedFibre$Container" "spare" "I", Cond.methodLink RX2 260 yX2_nextToGive, Cond.instanceMethod yX2_nextToGive, Cond.selects RX2 yX2_nextToGive yX2_nextToGive, Cond.code yX2_nextToGive cX2_nextToGive 10 (some (.object "SharedFibre$Container")), Cond.methodLink RX2 267 yX0_wants, Cond.instanceMethod yX0_wants, Cond.selects RX0 yX0_wants yX0_wants, Cond.code yX0_wants cX0_wants 1 (some .boolean), Cond.methodLink RX2 271 yX0_hasLessSpareThan, Cond.instanceMethod yX0_hasLessSpareThan, Cond.selects RX0 yX0_hasLessSpareThan yX0_hasLessSpareThan, Cond.code yX0_hasLessSpareThan cX0_hasLessSpareThan 2 (some .boolean), Cond.methodLink RX2 167 yX2_layBursts, Cond.instanceMethod yX2_layBursts, Cond.selects RX2 yX2_layBursts yX2_layBursts, Cond.code yX2_layBursts cX2_layBursts 5 none, Cond.methodLink RX2 275 yX1_burstLength, Cond.instanceMethod yX1_burstLength, Cond.selects RX1 yX1_burstLength yX1_burstLength]
def wsL_law0_r16 : List Cond := [Cond.code yX1_burstLength cX1_burstLength 6 (some .int), Cond.fieldLink RX1 69 "SharedFibre$Container" "given" "I", Cond.methodLink RX2 170 yX2_countMeetings, Cond.instanceMethod yX2_countMeetings, Cond.selects RX2 yX2_countMeetings yX2_countMeetings, Cond.code yX2_countMeetings cX2_countMeetings 3 none, Cond.methodLink RX2 278 Lib.Math.max.name, Cond.methodLink RX2 282 Lib.Math.min.name, Cond.fieldLink RX2 223 "SharedFibre" "met" "I", Cond.methodLink RX2 173 yX2_sendBlocks, Cond.instanceMethod yX2_sendBlocks, Cond.selects RX2 yX2_sendBlocks yX2_sendBlocks, Cond.code yX2_sendBlocks cX2_sendBlocks 5 none, Cond.fieldLink RX2 209 "SharedFibre$Container" "reported" "I", Cond.methodLink RX2 285 yX2_sendFrom, Cond.instanceMethod yX2_sendFrom, Cond.selects RX2 yX2_sendFrom yX2_sendFrom, Cond.code yX2_sendFrom cX2_sendFrom 6 none, Cond.fieldLink RX2 292 "SharedFibre$Container" "unsent" "[I", Cond.fieldLink RX2 295 "SharedFibre$Container" "firstHurt" "Z", Cond.fieldLink RX2 220 "SharedFibre" "lost" "I", Cond.fieldLink RX2 298 "SharedFibre$Container" "numbers" "[I", Cond.methodLink RX2 289 yX0_sendBlock, Cond.instanceMethod yX0_sendBlock]
def wsL_law0_r17 : List Cond := [Cond.selects RX0 yX0_sendBlock yX0_sendBlock, Cond.code yX0_sendBlock cX0_sendBlock 2 none, Cond.methodLink RX2 301 yX2_note, Cond.instanceMethod yX2_note, Cond.selects RX2 yX2_note yX2_note, Cond.code yX2_note cX2_note 5 none, Cond.methodLink RX2 305 yX0_dropFirst, Cond.instanceMethod yX0_dropFirst, Cond.selects RX0 yX0_dropFirst yX0_dropFirst, Cond.code yX0_dropFirst cX0_dropFirst 2 none, Cond.methodLink RX2 206 yX0_load, Cond.instanceMethod yX0_load, Cond.selects RX0 yX0_load yX0_load, Cond.code yX0_load cX0_load 3 (some .int), Cond.methodLink RX2 176 yX2_tellDown, Cond.instanceMethod yX2_tellDown, Cond.selects RX2 yX2_tellDown yX2_tellDown, Cond.code yX2_tellDown cX2_tellDown 5 none, Cond.methodLink RX2 308 yX1_takeWord, Cond.instanceMethod yX1_takeWord, Cond.selects RX1 yX1_takeWord yX1_takeWord, Cond.code yX1_takeWord cX1_takeWord 3 none, Cond.methodLink RX2 312 yX1_takeKey, Cond.instanceMethod yX1_takeKey]
def wsL_law0_r18 : List Cond := [Cond.selects RX1 yX1_takeKey yX1_takeKey, Cond.code yX1_takeKey cX1_takeKey 1 none, Cond.methodLink RX2 179 yX2_clearSpoilt, Cond.instanceMethod yX2_clearSpoilt, Cond.selects RX2 yX2_clearSpoilt yX2_clearSpoilt, Cond.code yX2_clearSpoilt cX2_clearSpoilt 5 none, Cond.methodLink RL 111 yX3_frame, Cond.instanceMethod yX3_frame, Cond.selects RX3 yX3_frame yX3_frame, Cond.code yX3_frame cX3_frame 3 (some .int), Cond.fieldLink RX3 170 "SharedFibreModel" "frames" "I", Cond.fieldLink RX3 107 "SharedFibreModel" "active" "I", Cond.fieldLink RX3 133 "SharedFibreModel" "dark" "I", Cond.methodLink RX3 179 yX3_darkFrame, Cond.instanceMethod yX3_darkFrame, Cond.selects RX3 yX3_darkFrame yX3_darkFrame, Cond.code yX3_darkFrame cX3_darkFrame 3 none, Cond.methodLink RX3 110 yX3_extra, Cond.instanceMethod yX3_extra, Cond.selects RX3 yX3_extra yX3_extra, Cond.code yX3_extra cX3_extra 2 (some .int), Cond.methodLink RX3 182 yX3_quietFrame, Cond.instanceMethod yX3_quietFrame, Cond.selects RX3 yX3_quietFrame yX3_quietFrame]
def wsL_law0_r19 : List Cond := [Cond.code yX3_quietFrame cX3_quietFrame 5 none, Cond.methodLink RX3 140 yX3_window, Cond.instanceMethod yX3_window, Cond.selects RX3 yX3_window yX3_window, Cond.code yX3_window cX3_window 2 (some .int), Cond.methodLink RX3 136 yX3_mix, Cond.instanceMethod yX3_mix, Cond.selects RX3 yX3_mix yX3_mix, Cond.code yX3_mix cX3_mix 4 (some .int), Cond.constant RX3 105 (625341585), Cond.constant RX3 106 (-1640531535), Cond.methodLink RX3 143 yX3_level, Cond.instanceMethod yX3_level, Cond.selects RX3 yX3_level yX3_level, Cond.code yX3_level cX3_level 2 none, Cond.methodLink RX3 185 yX3_look, Cond.instanceMethod yX3_look, Cond.selects RX3 yX3_look yX3_look, Cond.code yX3_look cX3_look 3 none, Cond.fieldLink RX3 149 "SharedFibreModel" "drifted" "I", Cond.methodLink RX3 146 yX3_errorOf, Cond.instanceMethod yX3_errorOf, Cond.selects RX3 yX3_errorOf yX3_errorOf, Cond.code yX3_errorOf cX3_errorOf 2 (some .int)]
def wsL_law0_r20 : List Cond := [Cond.methodLink RX3 188 yX3_map, Cond.instanceMethod yX3_map, Cond.selects RX3 yX3_map yX3_map, Cond.code yX3_map cX3_map 4 none, Cond.fieldLink RX3 152 "SharedFibreModel" "free" "I", Cond.methodLink RX3 155 yX3_wants, Cond.instanceMethod yX3_wants, Cond.selects RX3 yX3_wants yX3_wants, Cond.code yX3_wants cX3_wants 2 (some .boolean), Cond.methodLink RX3 191 yX3_bursts, Cond.instanceMethod yX3_bursts, Cond.selects RX3 yX3_bursts yX3_bursts, Cond.code yX3_bursts cX3_bursts 5 none, Cond.fieldLink RX3 158 "SharedFibreModel" "met" "I", Cond.methodLink RX3 194 yX3_transport, Cond.instanceMethod yX3_transport, Cond.selects RX3 yX3_transport yX3_transport, Cond.code yX3_transport cX3_transport 4 (some .int), Cond.methodLink RX3 173 yX3_sendBlock, Cond.instanceMethod yX3_sendBlock, Cond.selects RX3 yX3_sendBlock yX3_sendBlock, Cond.code yX3_sendBlock cX3_sendBlock 3 (some .boolean), Cond.fieldLink RX3 164 "SharedFibreModel" "lost" "I", Cond.fieldLink RX3 167 "SharedFibreModel" "many" "I"]
def wsL_law0_r21 : List Cond := [Cond.methodLink RX3 161 yX3_leave, Cond.instanceMethod yX3_leave, Cond.selects RX3 yX3_leave yX3_leave, Cond.code yX3_leave cX3_leave 3 none, Cond.methodLink RX3 176 yX3_loadOf, Cond.instanceMethod yX3_loadOf, Cond.selects RX3 yX3_loadOf yX3_loadOf, Cond.code yX3_loadOf cX3_loadOf 4 (some .int), Cond.methodLink RX3 197 yX3_keys, Cond.instanceMethod yX3_keys, Cond.selects RX3 yX3_keys yX3_keys, Cond.code yX3_keys cX3_keys 2 none, Cond.methodLink RL 112 yL_unit, Cond.static yL_unit, Cond.codeWith yL_unit cL_unit 5 (some .int) [(0, 10, 13, 13)], Cond.methodLink RL 46 yX2_unit, Cond.instanceMethod yX2_unit, Cond.selects RX2 yX2_unit yX2_unit, Cond.code yX2_unit cX2_unit 4 (some .int), Cond.fieldLink RX2 185 "SharedFibre$Unit" "keyInForce" "I", Cond.fieldLink RX2 188 "SharedFibre$Unit" "toldKey" "I", Cond.fieldLink RX2 191 "SharedFibre$Unit" "madeOut" "I", Cond.fieldLink RX2 194 "SharedFibre$Unit" "sentAs" "I", Cond.methodLink RL 114 yX3_unit]
def wsL_law0_r22 : List Cond := [Cond.instanceMethod yX3_unit, Cond.selects RX3 yX3_unit yX3_unit, Cond.code yX3_unit cX3_unit 3 (some .int), Cond.methodLink RL 115 yL_container, Cond.static yL_container, Cond.codeWith yL_container cL_container 6 (some .int) [(0, 12, 15, 13)], Cond.methodLink RL 49 yX2_container, Cond.instanceMethod yX2_container, Cond.selects RX2 yX2_container yX2_container, Cond.code yX2_container cX2_container 5 (some .int), Cond.methodLink RL 117 yX3_container, Cond.instanceMethod yX3_container, Cond.selects RX3 yX3_container yX3_container, Cond.code yX3_container cX3_container 5 (some .int), Cond.methodLink RL 118 yL_came, Cond.static yL_came, Cond.codeWith yL_came cL_came 5 (some .int) [(0, 10, 13, 55), (0, 10, 17, 13)], Cond.classLink RL 55 "java/lang/IndexOutOfBoundsException", Cond.methodLink RL 52 yX2_came, Cond.instanceMethod yX2_came, Cond.selects RX2 yX2_came yX2_came, Cond.code yX2_came cX2_came 3 (some .int), Cond.classLink RX2 215 "java/lang/IndexOutOfBoundsException", Cond.initialized "java/lang/IndexOutOfBoundsException"]
def wsL_law0_r23 : List Cond := [Cond.methodLink RL 120 yX3_came, Cond.instanceMethod yX3_came, Cond.selects RX3 yX3_came yX3_came, Cond.code yX3_came cX3_came 3 (some .int), Cond.methodLink RL 121 yL_count, Cond.static yL_count, Cond.codeWith yL_count cL_count 4 (some .int) [(0, 9, 12, 13)], Cond.methodLink RL 57 yX2_count, Cond.instanceMethod yX2_count, Cond.selects RX2 yX2_count yX2_count, Cond.code yX2_count cX2_count 2 (some .int), Cond.methodLink RL 124 yX3_count, Cond.instanceMethod yX3_count, Cond.selects RX3 yX3_count yX3_count, Cond.code yX3_count cX3_count 2 (some .int)]
def wsL_law0 : List Cond := (wsL_law0_r1 ++ (wsL_law0_r2 ++ (wsL_law0_r3 ++ (wsL_law0_r4 ++ (wsL_law0_r5 ++ (wsL_law0_r6 ++ (wsL_law0_r7 ++ (wsL_law0_r8 ++ (wsL_law0_r9 ++ (wsL_law0_r10 ++ (wsL_law0_r11 ++ (wsL_law0_r12 ++ (wsL_law0_r13 ++ (wsL_law0_r14 ++ (wsL_law0_r15 ++ (wsL_law0_r16 ++ (wsL_law0_r17 ++ (wsL_law0_r18 ++ (wsL_law0_r19 ++ (wsL_law0_r20 ++ (wsL_law0_r21 ++ (wsL_law0_r22 ++ wsL_law0_r23)))))))))))))))))))))) ++ wsX20 ++ wsX30 ++ wsX10 ++ wsX00 ++ ([] : List Cond)
def wsL_law : List Cond := wsL_law0 ++ (vx_atS RX2 41 "java/lang/IllegalArgumentException" ["java/lang/RuntimeException", "java/lang/Exception"]).filter goodWord ++ (vx_atS RX2 57 "java/lang/IllegalStateException" ["java/lang/RuntimeException", "java/lang/Exception"]).filter goodWord ++ (vx_atS RX2 219 "java/lang/IndexOutOfBoundsException" ["java/lang/RuntimeException", "java/lang/Exception"]).filter goodWord
abbrev vwCl : List vw_C := [(RX0, TX0, 11), (RX1, TX1, 15), (RX2, TX2, 16), (RX3, TX3, 41)]
end
section
/-! ===== static worlds: objects and arrays that are made once; only their ints move ===== -/
/-- the ints: kind, place, object -/
abbrev gm_M : Type := Nat → Nat → Nat → Int32
/-- a kind: how many there are, and what they are: objects (number of the class, of fields; which fields lead to which kind), rows of ints (number of the type, length), rows of references (kind, factor, length, number of the type) -/
abbrev gm_K : Type := Nat × ((Nat × Nat × (Nat → Option Nat)) ⊕ ((Nat × Nat) ⊕ (Nat × Nat × Nat × Nat)))
abbrev gm_L : Type := Nat → gm_K
def gm_f (sr : Nat → Option Nat) (ad : Nat → Nat → Nat) (M : gm_M) (k n f : Nat) : Value := match sr f with
  | some k' => .ref (ad k' n)
  | none => .int (M k f n)
def gm_cell (Ly : gm_L) (cy : Nat → ClassId) (ad : Nat → Nat → Nat) (M : gm_M) (k n : Nat) : va_E := match (Ly k).2 with
  | .inl o => .inr (o.1, (List.range o.2.1).map (gm_f o.2.2 ad M k n))
  | .inr (.inl r) => .inl (cy r.1, r.2, .inl (fun j => M k j n))
  | .inr (.inr r) => .inl (cy r.2.2.2, r.2.2.1, .inr (.inr (.inr (.inr (fun j => some (ad r.1 (r.2.1 * n + j)))))))
def gm_P (D : va_G) (Ly : gm_L) (cy : Nat → ClassId) (ad : Nat → Nat → Nat) (M : gm_M) (H : Heap) : Prop := ∀ k n : Nat, n < (Ly k).1 → va_at D vwCl (ad k n, gm_cell Ly cy ad M k n) H
def gm_I (Ly : gm_L) (ad : Nat → Nat → Nat) : Prop := ∀ k n k' n' : Nat, n < (Ly k).1 → n' < (Ly k').1 → ad k n = ad k' n' → k = k' ∧ n = n'
def gm_ty (cy : Nat → ClassId) : List (ClassId × FieldType) := [(cy 0, .int), (cy 1, .boolean), (cy 2, .object RX0), (cy 3, .object RX1)]
def gm_up (M : gm_M) (k f n : Nat) (x : Int32) : gm_M := fun k' f' n' => if k' = k ∧ f' = f ∧ n' = n then x else M k' f' n'
theorem gm_cell_ne {Ly : gm_L} {cy : Nat → ClassId} {ad : Nat → Nat → Nat} {M : gm_M} {k f n k' n' : Nat} {x : Int32} (h : ¬ (k' = k ∧ n' = n)) : gm_cell Ly cy ad (gm_up M k f n x) k' n' = gm_cell Ly cy ad M k' n' := by
  have e : ∀ f', gm_up M k f n x k' f' n' = M k' f' n' := fun f' => if_neg (fun q => h ⟨q.1, q.2.2⟩)
  unfold gm_cell
  cases (Ly k').2 with
  | inl o =>
    have e2 : gm_f o.2.2 ad (gm_up M k f n x) k' n' = gm_f o.2.2 ad M k' n' := by
      funext f'
      simp only [gm_f, e]
    exact congrArg (fun z => (Sum.inr (o.1, List.map z (List.range o.2.1)) : va_E)) e2
  | inr r =>
    cases r with
    | inl r => simp only [e]
    | inr r => rfl
theorem gm_set {N f : Nat} {g g' : Nat → Value} {v : Value} (h1 : g' f = v) (h2 : ∀ j, j ≠ f → g' j = g j) : ((List.range N).map g).set f v = (List.range N).map g' := by
  apply List.ext_getElem?
  intro i
  by_cases hi : i = f
  · subst hi
    rw [List.getElem?_set]
    by_cases hN : i < N
    · simp [hN, h1]
    · simp [hN]
  · rw [List.getElem?_set_ne (Ne.symm hi)]
    by_cases hN : i < N
    · simp [hN, h2 i hi]
    · simp [hN]
theorem gm_one {D : va_G} {a : Nat} {e : va_E} {H : Heap} (h : va_at D vwCl (a, e) H) : va_P D vwCl [(a, e)] H := by
  intro k q hk
  match k, hk with
  | 0, hk => cases hk; exact h
  | k + 1, hk => simp at hk
theorem gm_P.kept {D : va_G} {Ly : gm_L} {cy : Nat → ClassId} {ad : Nat → Nat → Nat} {M : gm_M} {H H1 : Heap} (h : gm_P D Ly cy ad M H) (hq : ∀ k n : Nat, n < (Ly k).1 → H1[ad k n]? = H[ad k n]?) : gm_P D Ly cy ad M H1 := fun k n hn => (h k n hn).kept (hq k n hn)
theorem gm_P.set {D : va_G} {Ly : gm_L} {cy : Nat → ClassId} {ad : Nat → Nat → Nat} {M : gm_M} {H H1 : Heap} {k f n : Nat} {x : Int32} (h : gm_P D Ly cy ad M H) (hI : gm_I Ly ad) (hn : n < (Ly k).1) (he : va_at D vwCl (ad k n, gm_cell Ly cy ad (gm_up M k f n x) k n) H1) (oq : ∀ q : Nat, q ≠ ad k n → H1[q]? = H[q]?) : gm_P D Ly cy ad (gm_up M k f n x) H1 := by
  intro k' n' hn'
  by_cases hk : k' = k ∧ n' = n
  · obtain ⟨rfl, rfl⟩ := hk
    exact he
  · rw [gm_cell_ne hk]
    exact (h k' n' hn').kept (oq _ (fun z => hk (hI k' n' k n hn' hn z)))
/-- the machine's part and the world's part of a walk -/
abbrev gm_X : Type := Program × Launch × Env × Room × State × MethodId × Array Value × List Frame × Method × Code × (va_G × (Nat → ClassId) × (Nat → Nat → Nat)) × (Nat → Prop) × (State → Prop)
def gm_l (X : gm_X) : Launch := X.2.1
def gm_R (X : gm_X) : Room := X.2.2.2.1
def gm_s (X : gm_X) : State := X.2.2.2.2.1
def gm_D (X : gm_X) : va_G := X.2.2.2.2.2.2.2.2.2.2.1.1
def gm_cy (X : gm_X) : Nat → ClassId := X.2.2.2.2.2.2.2.2.2.2.1.2.1
def gm_ad (X : gm_X) : Nat → Nat → Nat := X.2.2.2.2.2.2.2.2.2.2.1.2.2
/-- the locals -/
def gm_ls (ls : Array Slot) (L : List (Option Value)) : Prop := ls.size = L.length ∧ lv_wf ls ∧ ∀ (i : Nat) (v : Value), L[i]? = some (some v) → v.category = 1 ∧ ls[i]? = some (.val v)
/-- the walk stands at pc, with the locals L, the stack st, the ints M -/
def GO (Ly : gm_L) (X : gm_X) (cells slots pc : Nat) (L : List (Option Value)) (st : List Value) (M : gm_M) : Prop := match X with
  | (p, l, e, R, s, m, args, below, meth, c, (D, cy, ad), A, Q) => ∀ (H : Heap) (locs : List Loc) (ls : Array Slot), gm_P D Ly cy ad M H → va_S A s.heap H locs → gm_ls ls L → W p l e R s m args below meth c H locs cells slots Q (F0 m pc ls st)
/-- what holds of the machine and of the tables all through a walk -/
def CX (Ly : gm_L) (X : gm_X) (cc : ByteArray) (own : String) (Ts : List Cond) (nL : Nat) : Prop := match X with
  | (p, _, _, _, s, m, args, _, meth, c, (D, cy, ad), A, _) => p.tables.exec = Jvm.exec ∧ c.code = cc ∧ c.maxLocals = nL ∧ s.vm.findClass own = some m.cls ∧ (∀ w ∈ Ts, w.before args s = true) ∧ va_K D vwCl (gm_ty cy) s ∧ gm_I Ly ad ∧ (∀ k n : Nat, n < (Ly k).1 → A (ad k n)) ∧ (∀ q : Nat, s.heap.size ≤ q → A q) ∧ meth.locks = false
def gm_pairs (L : List (Option Value)) : List (Nat × Value) := (List.range L.length).filterMap (fun i => match L[i]? with
  | some (some v) => some (i, v)
  | _ => none)
theorem gm_pairs_mem {L : List (Option Value)} {i : Nat} {v : Value} : (i, v) ∈ gm_pairs L ↔ L[i]? = some (some v) := by
  unfold gm_pairs
  rw [List.mem_filterMap]
  constructor
  · rintro ⟨j, -, hj⟩
    split at hj
    · rename_i w hw
      cases hj
      exact hw
    · cases hj
  · intro h
    refine ⟨i, List.mem_range.mpr ?_, by rw [h]⟩
    exact (List.getElem?_eq_some_iff.mp h).1
theorem gm_ls.has {ls : Array Slot} {L : List (Option Value)} (h : gm_ls ls L) : lv_has ls L.length (gm_pairs L) := ⟨h.1, h.2.1, fun q hq => (h.2.2 q.1 q.2 (gm_pairs_mem.mp hq)).2⟩
theorem gm_ls.store {ls ls' : Array Slot} {L : List (Option Value)} {i : Nat} {v : Value} (h : gm_ls ls L) (hc : v.category = 1) (h' : lv_has ls' L.length ((i, v) :: (gm_pairs L).filter (fun q => !(q.1 == i) && !(q.1 + 1 == i && q.2.category == 2)))) : gm_ls ls' (L.set i (some v)) := by
  refine ⟨by rw [List.length_set]; exact h'.1, h'.2.1, fun j w hj => ?_⟩
  by_cases hji : j = i
  · subst hji
    rw [List.getElem?_set] at hj
    simp at hj
    obtain ⟨-, rfl⟩ := hj
    exact ⟨hc, h'.2.2 (j, v) List.mem_cons_self⟩
  · rw [List.getElem?_set_ne (Ne.symm hji)] at hj
    have h1 := (h.2.2 j w hj).1
    refine ⟨h1, h'.2.2 (j, w) (List.mem_cons_of_mem _ (List.mem_filter.mpr ⟨gm_pairs_mem.mpr hj, ?_⟩))⟩
    simp [hji, h1]
section GM
variable {Ly : gm_L} {X : gm_X} {cc : ByteArray} {own : String} {Ts : List Cond} {nL ce sl pc : Nat} {L : List (Option Value)} {rest : List Value} {M : gm_M}
theorem go_iconst (hC : CX Ly X cc own Ts nL) {n : Int} {v : Int32} (hdg : decode cc pc = .ok (.iconst n, 1)) (hv : Int32.ofInt n = v) (k : GO Ly X ce sl (pc + 1) L (.int v :: rest) M) : GO Ly X ce sl pc L (rest) M := by
  obtain ⟨p, l, e, R, s, m, args, below, meth, c, ⟨D, cy, ad⟩, A, Q⟩ := X
  obtain ⟨hx, hb, hml, hown, hts, hK, hI, hAd, hA, hlk⟩ := hC
  intro H locs ls hP hS hl
  exact lv_iconst hx hb hdg hv (k H locs ls hP hS hl)
theorem go_bipush (hC : CX Ly X cc own Ts nL) {n : Int} {v : Int32} (hdg : decode cc pc = .ok (.bipush n, 2)) (hv : (Int8.ofInt n).toInt32 = v) (k : GO Ly X ce sl (pc + 2) L (.int v :: rest) M) : GO Ly X ce sl pc L (rest) M := by
  obtain ⟨p, l, e, R, s, m, args, below, meth, c, ⟨D, cy, ad⟩, A, Q⟩ := X
  obtain ⟨hx, hb, hml, hown, hts, hK, hI, hAd, hA, hlk⟩ := hC
  intro H locs ls hP hS hl
  exact lv_bipush hx hb hdg hv (k H locs ls hP hS hl)
theorem go_sipush (hC : CX Ly X cc own Ts nL) {n : Int} {v : Int32} (hdg : decode cc pc = .ok (.sipush n, 3)) (hv : (Int16.ofInt n).toInt32 = v) (k : GO Ly X ce sl (pc + 3) L (.int v :: rest) M) : GO Ly X ce sl pc L (rest) M := by
  obtain ⟨p, l, e, R, s, m, args, below, meth, c, ⟨D, cy, ad⟩, A, Q⟩ := X
  obtain ⟨hx, hb, hml, hown, hts, hK, hI, hAd, hA, hlk⟩ := hC
  intro H locs ls hP hS hl
  exact lv_sipush hx hb hdg hv (k H locs ls hP hS hl)
theorem go_iadd (hC : CX Ly X cc own Ts nL) {x y : Int32} (hdg : decode cc pc = .ok (.iadd, 1))  (k : GO Ly X ce sl (pc + 1) L (.int (x + y) :: rest) M) : GO Ly X ce sl pc L (.int y :: .int x :: rest) M := by
  obtain ⟨p, l, e, R, s, m, args, below, meth, c, ⟨D, cy, ad⟩, A, Q⟩ := X
  obtain ⟨hx, hb, hml, hown, hts, hK, hI, hAd, hA, hlk⟩ := hC
  intro H locs ls hP hS hl
  exact lv_iadd hx hb hdg  (k H locs ls hP hS hl)
theorem go_isub (hC : CX Ly X cc own Ts nL) {x y : Int32} (hdg : decode cc pc = .ok (.isub, 1))  (k : GO Ly X ce sl (pc + 1) L (.int (x - y) :: rest) M) : GO Ly X ce sl pc L (.int y :: .int x :: rest) M := by
  obtain ⟨p, l, e, R, s, m, args, below, meth, c, ⟨D, cy, ad⟩, A, Q⟩ := X
  obtain ⟨hx, hb, hml, hown, hts, hK, hI, hAd, hA, hlk⟩ := hC
  intro H locs ls hP hS hl
  exact lv_isub hx hb hdg  (k H locs ls hP hS hl)
theorem go_imul (hC : CX Ly X cc own Ts nL) {x y : Int32} (hdg : decode cc pc = .ok (.imul, 1))  (k : GO Ly X ce sl (pc + 1) L (.int (x * y) :: rest) M) : GO Ly X ce sl pc L (.int y :: .int x :: rest) M := by
  obtain ⟨p, l, e, R, s, m, args, below, meth, c, ⟨D, cy, ad⟩, A, Q⟩ := X
  obtain ⟨hx, hb, hml, hown, hts, hK, hI, hAd, hA, hlk⟩ := hC
  intro H locs ls hP hS hl
  exact lv_imul hx hb hdg  (k H locs ls hP hS hl)
theorem go_iand (hC : CX Ly X cc own Ts nL) {x y : Int32} (hdg : decode cc pc = .ok (.iand, 1))  (k : GO Ly X ce sl (pc + 1) L (.int (x &&& y) :: rest) M) : GO Ly X ce sl pc L (.int y :: .int x :: rest) M := by
  obtain ⟨p, l, e, R, s, m, args, below, meth, c, ⟨D, cy, ad⟩, A, Q⟩ := X
  obtain ⟨hx, hb, hml, hown, hts, hK, hI, hAd, hA, hlk⟩ := hC
  intro H locs ls hP hS hl
  exact lv_iand hx hb hdg  (k H locs ls hP hS hl)
theorem go_ior (hC : CX Ly X cc own Ts nL) {x y : Int32} (hdg : decode cc pc = .ok (.ior, 1))  (k : GO Ly X ce sl (pc + 1) L (.int (x ||| y) :: rest) M) : GO Ly X ce sl pc L (.int y :: .int x :: rest) M := by
  obtain ⟨p, l, e, R, s, m, args, below, meth, c, ⟨D, cy, ad⟩, A, Q⟩ := X
  obtain ⟨hx, hb, hml, hown, hts, hK, hI, hAd, hA, hlk⟩ := hC
  intro H locs ls hP hS hl
  exact lv_ior hx hb hdg  (k H locs ls hP hS hl)
theorem go_ixor (hC : CX Ly X cc own Ts nL) {x y : Int32} (hdg : decode cc pc = .ok (.ixor, 1))  (k : GO Ly X ce sl (pc + 1) L (.int (x ^^^ y) :: rest) M) : GO Ly X ce sl pc L (.int y :: .int x :: rest) M := by
  obtain ⟨p, l, e, R, s, m, args, below, meth, c, ⟨D, cy, ad⟩, A, Q⟩ := X
  obtain ⟨hx, hb, hml, hown, hts, hK, hI, hAd, hA, hlk⟩ := hC
  intro H locs ls hP hS hl
  exact lv_ixor hx hb hdg  (k H locs ls hP hS hl)
theorem go_irem (hC : CX Ly X cc own Ts nL) {x y : Int32} (hdg : decode cc pc = .ok (.irem, 1)) (hne : ¬ y = 0) (k : GO Ly X ce sl (pc + 1) L (.int (x - x / y * y) :: rest) M) : GO Ly X ce sl pc L (.int y :: .int x :: rest) M := by
  obtain ⟨p, l, e, R, s, m, args, below, meth, c, ⟨D, cy, ad⟩, A, Q⟩ := X
  obtain ⟨hx, hb, hml, hown, hts, hK, hI, hAd, hA, hlk⟩ := hC
  intro H locs ls hP hS hl
  exact lv_irem hx hb hdg hne (k H locs ls hP hS hl)
theorem go_idiv (hC : CX Ly X cc own Ts nL) {x y : Int32} (hdg : decode cc pc = .ok (.idiv, 1)) (hne : ¬ y = 0) (k : GO Ly X ce sl (pc + 1) L (.int (x / y) :: rest) M) : GO Ly X ce sl pc L (.int y :: .int x :: rest) M := by
  obtain ⟨p, l, e, R, s, m, args, below, meth, c, ⟨D, cy, ad⟩, A, Q⟩ := X
  obtain ⟨hx, hb, hml, hown, hts, hK, hI, hAd, hA, hlk⟩ := hC
  intro H locs ls hP hS hl
  exact lv_idiv hx hb hdg hne (k H locs ls hP hS hl)
theorem go_ishl (hC : CX Ly X cc own Ts nL) {x y : Int32} (hdg : decode cc pc = .ok (.ishl, 1))  (k : GO Ly X ce sl (pc + 1) L (.int (x <<< (y &&& 31)) :: rest) M) : GO Ly X ce sl pc L (.int y :: .int x :: rest) M := by
  obtain ⟨p, l, e, R, s, m, args, below, meth, c, ⟨D, cy, ad⟩, A, Q⟩ := X
  obtain ⟨hx, hb, hml, hown, hts, hK, hI, hAd, hA, hlk⟩ := hC
  intro H locs ls hP hS hl
  exact lv_ishl hx hb hdg  (k H locs ls hP hS hl)
theorem go_ishr (hC : CX Ly X cc own Ts nL) {x y : Int32} (hdg : decode cc pc = .ok (.ishr, 1))  (k : GO Ly X ce sl (pc + 1) L (.int (x >>> (y &&& 31)) :: rest) M) : GO Ly X ce sl pc L (.int y :: .int x :: rest) M := by
  obtain ⟨p, l, e, R, s, m, args, below, meth, c, ⟨D, cy, ad⟩, A, Q⟩ := X
  obtain ⟨hx, hb, hml, hown, hts, hK, hI, hAd, hA, hlk⟩ := hC
  intro H locs ls hP hS hl
  exact lv_ishr hx hb hdg  (k H locs ls hP hS hl)
theorem go_iushr (hC : CX Ly X cc own Ts nL) {x y : Int32} (hdg : decode cc pc = .ok (.iushr, 1))  (k : GO Ly X ce sl (pc + 1) L (.int (x.toUInt32 >>> (y.toUInt32 &&& Int32.toUInt32 31)).toInt32 :: rest) M) : GO Ly X ce sl pc L (.int y :: .int x :: rest) M := by
  obtain ⟨p, l, e, R, s, m, args, below, meth, c, ⟨D, cy, ad⟩, A, Q⟩ := X
  obtain ⟨hx, hb, hml, hown, hts, hK, hI, hAd, hA, hlk⟩ := hC
  intro H locs ls hP hS hl
  exact lv_iushr hx hb hdg rfl (k H locs ls hP hS hl)
theorem go_i2l (hC : CX Ly X cc own Ts nL) {x : Int32} (hdg : decode cc pc = .ok (.i2l, 1))  (k : GO Ly X ce sl (pc + 1) L (.long x.toInt64 :: rest) M) : GO Ly X ce sl pc L (.int x :: rest) M := by
  obtain ⟨p, l, e, R, s, m, args, below, meth, c, ⟨D, cy, ad⟩, A, Q⟩ := X
  obtain ⟨hx, hb, hml, hown, hts, hK, hI, hAd, hA, hlk⟩ := hC
  intro H locs ls hP hS hl
  exact lv_i2l hx hb hdg rfl (k H locs ls hP hS hl)
theorem go_ladd (hC : CX Ly X cc own Ts nL) {x y : Int64} (hdg : decode cc pc = .ok (.ladd, 1))  (k : GO Ly X ce sl (pc + 1) L (.long (x + y) :: rest) M) : GO Ly X ce sl pc L (.long y :: .long x :: rest) M := by
  obtain ⟨p, l, e, R, s, m, args, below, meth, c, ⟨D, cy, ad⟩, A, Q⟩ := X
  obtain ⟨hx, hb, hml, hown, hts, hK, hI, hAd, hA, hlk⟩ := hC
  intro H locs ls hP hS hl
  exact lv_ladd hx hb hdg  (k H locs ls hP hS hl)
theorem go_lcmp (hC : CX Ly X cc own Ts nL) {x y : Int64} (hdg : decode cc pc = .ok (.lcmp, 1))  (k : GO Ly X ce sl (pc + 1) L (.int (lg_cmp x y) :: rest) M) : GO Ly X ce sl pc L (.long y :: .long x :: rest) M := by
  obtain ⟨p, l, e, R, s, m, args, below, meth, c, ⟨D, cy, ad⟩, A, Q⟩ := X
  obtain ⟨hx, hb, hml, hown, hts, hK, hI, hAd, hA, hlk⟩ := hC
  intro H locs ls hP hS hl
  exact W.lcmp hx hb hdg  (k H locs ls hP hS hl)
theorem go_dup (hC : CX Ly X cc own Ts nL) {v : Value} (hdg : decode cc pc = .ok (.dup, 1)) (hv : v.category = 1) (k : GO Ly X ce sl (pc + 1) L (v :: v :: rest) M) : GO Ly X ce sl pc L (v :: rest) M := by
  obtain ⟨p, l, e, R, s, m, args, below, meth, c, ⟨D, cy, ad⟩, A, Q⟩ := X
  obtain ⟨hx, hb, hml, hown, hts, hK, hI, hAd, hA, hlk⟩ := hC
  intro H locs ls hP hS hl
  exact lv_dup hx hb hdg hv (k H locs ls hP hS hl)
theorem go_pop (hC : CX Ly X cc own Ts nL) {v : Value} (hdg : decode cc pc = .ok (.pop, 1)) (hv : v.category = 1) (k : GO Ly X ce sl (pc + 1) L (rest) M) : GO Ly X ce sl pc L (v :: rest) M := by
  obtain ⟨p, l, e, R, s, m, args, below, meth, c, ⟨D, cy, ad⟩, A, Q⟩ := X
  obtain ⟨hx, hb, hml, hown, hts, hK, hI, hAd, hA, hlk⟩ := hC
  intro H locs ls hP hS hl
  exact lv_pop hx hb hdg hv (k H locs ls hP hS hl)
theorem go_dup_x1 (hC : CX Ly X cc own Ts nL) {v v2 : Value} (hdg : decode cc pc = .ok (.dup_x1, 1)) (hv : v.category = 1) (hv2 : v2.category = 1) (k : GO Ly X ce sl (pc + 1) L (v :: v2 :: v :: rest) M) : GO Ly X ce sl pc L (v :: v2 :: rest) M := by
  obtain ⟨p, l, e, R, s, m, args, below, meth, c, ⟨D, cy, ad⟩, A, Q⟩ := X
  obtain ⟨hx, hb, hml, hown, hts, hK, hI, hAd, hA, hlk⟩ := hC
  intro H locs ls hP hS hl
  exact lv_dup_x1 hx hb hdg hv hv2 (k H locs ls hP hS hl)
theorem go_dup_x2 (hC : CX Ly X cc own Ts nL) {v v2 v3 : Value} (hdg : decode cc pc = .ok (.dup_x2, 1)) (hv : v.category = 1) (hv2 : v2.category = 1) (hv3 : v3.category = 1) (k : GO Ly X ce sl (pc + 1) L (v :: v2 :: v3 :: v :: rest) M) : GO Ly X ce sl pc L (v :: v2 :: v3 :: rest) M := by
  obtain ⟨p, l, e, R, s, m, args, below, meth, c, ⟨D, cy, ad⟩, A, Q⟩ := X
  obtain ⟨hx, hb, hml, hown, hts, hK, hI, hAd, hA, hlk⟩ := hC
  intro H locs ls hP hS hl
  exact lv_dup_x2 hx hb hdg hv hv2 hv3 (k H locs ls hP hS hl)
theorem go_dup2 (hC : CX Ly X cc own Ts nL) {v v2 : Value} (hdg : decode cc pc = .ok (.dup2, 1)) (hv : v.category = 1) (hv2 : v2.category = 1) (k : GO Ly X ce sl (pc + 1) L (v :: v2 :: v :: v2 :: rest) M) : GO Ly X ce sl pc L (v :: v2 :: rest) M := by
  obtain ⟨p, l, e, R, s, m, args, below, meth, c, ⟨D, cy, ad⟩, A, Q⟩ := X
  obtain ⟨hx, hb, hml, hown, hts, hK, hI, hAd, hA, hlk⟩ := hC
  intro H locs ls hP hS hl
  exact lv_dup2_11 hx hb hdg hv hv2 (k H locs ls hP hS hl)
theorem go_null (hC : CX Ly X cc own Ts nL)  (hdg : decode cc pc = .ok (.aconst_null, 1))  (k : GO Ly X ce sl (pc + 1) L (.null :: rest) M) : GO Ly X ce sl pc L (rest) M := by
  obtain ⟨p, l, e, R, s, m, args, below, meth, c, ⟨D, cy, ad⟩, A, Q⟩ := X
  obtain ⟨hx, hb, hml, hown, hts, hK, hI, hAd, hA, hlk⟩ := hC
  intro H locs ls hP hS hl
  exact lv_null hx hb hdg  (k H locs ls hP hS hl)
theorem go_iload_n (hC : CX Ly X cc own Ts nL) {j : Fin 4} {x : Int32} (hdg : decode cc pc = .ok (.iload_n j, 1)) (hL : L[j.val]? = some (some (.int x))) (k : GO Ly X ce sl (pc + 1) L (.int x :: rest) M) : GO Ly X ce sl pc L rest M := by
  obtain ⟨p, l, e, R, s, m, args, below, meth, c, ⟨D, cy, ad⟩, A, Q⟩ := X
  obtain ⟨hx, hb, hml, hown, hts, hK, hI, hAd, hA, hlk⟩ := hC
  intro H locs ls hP hS hl
  exact lv_iload_n hx hb hdg rfl (hl.2.2 _ _ hL).2 (k H locs ls hP hS hl)
theorem go_iload (hC : CX Ly X cc own Ts nL) {j : Nat} {x : Int32} (hdg : decode cc pc = .ok (.iload j, 2)) (hL : L[j]? = some (some (.int x))) (k : GO Ly X ce sl (pc + 2) L (.int x :: rest) M) : GO Ly X ce sl pc L rest M := by
  obtain ⟨p, l, e, R, s, m, args, below, meth, c, ⟨D, cy, ad⟩, A, Q⟩ := X
  obtain ⟨hx, hb, hml, hown, hts, hK, hI, hAd, hA, hlk⟩ := hC
  intro H locs ls hP hS hl
  exact lv_iload hx hb hdg (hl.2.2 _ _ hL).2 (k H locs ls hP hS hl)
theorem go_istore_n (hC : CX Ly X cc own Ts nL) {j : Fin 4} {x : Int32} (i : Nat) (hdg : decode cc pc = .ok (.istore_n j, 1)) (hi : j.val = i) (hj : i < L.length) (k : GO Ly X ce sl (pc + 1) (L.set i (some (.int x))) rest M) : GO Ly X ce sl pc L (.int x :: rest) M := by
  subst hi
  obtain ⟨p, l, e, R, s, m, args, below, meth, c, ⟨D, cy, ad⟩, A, Q⟩ := X
  obtain ⟨hx, hb, hml, hown, hts, hK, hI, hAd, hA, hlk⟩ := hC
  intro H locs ls hP hS hl
  exact lv_istore_n hx hb hdg rfl hl.has hj rfl (fun ls' h' => k H locs ls' hP hS (hl.store rfl h'))
theorem go_istore (hC : CX Ly X cc own Ts nL) {j : Nat} {x : Int32} (hdg : decode cc pc = .ok (.istore j, 2)) (hj : j < L.length) (k : GO Ly X ce sl (pc + 2) (L.set j (some (.int x))) rest M) : GO Ly X ce sl pc L (.int x :: rest) M := by
  obtain ⟨p, l, e, R, s, m, args, below, meth, c, ⟨D, cy, ad⟩, A, Q⟩ := X
  obtain ⟨hx, hb, hml, hown, hts, hK, hI, hAd, hA, hlk⟩ := hC
  intro H locs ls hP hS hl
  exact lv_istore hx hb hdg hl.has hj rfl (fun ls' h' => k H locs ls' hP hS (hl.store rfl h'))
theorem go_aload_n (hC : CX Ly X cc own Ts nL) {j : Fin 4} {x : Nat} (hdg : decode cc pc = .ok (.aload_n j, 1)) (hL : L[j.val]? = some (some (.ref x))) (k : GO Ly X ce sl (pc + 1) L (.ref x :: rest) M) : GO Ly X ce sl pc L rest M := by
  obtain ⟨p, l, e, R, s, m, args, below, meth, c, ⟨D, cy, ad⟩, A, Q⟩ := X
  obtain ⟨hx, hb, hml, hown, hts, hK, hI, hAd, hA, hlk⟩ := hC
  intro H locs ls hP hS hl
  exact lv_aload_n hx hb hdg rfl (hl.2.2 _ _ hL).2 (k H locs ls hP hS hl)
theorem go_aload (hC : CX Ly X cc own Ts nL) {j : Nat} {x : Nat} (hdg : decode cc pc = .ok (.aload j, 2)) (hL : L[j]? = some (some (.ref x))) (k : GO Ly X ce sl (pc + 2) L (.ref x :: rest) M) : GO Ly X ce sl pc L rest M := by
  obtain ⟨p, l, e, R, s, m, args, below, meth, c, ⟨D, cy, ad⟩, A, Q⟩ := X
  obtain ⟨hx, hb, hml, hown, hts, hK, hI, hAd, hA, hlk⟩ := hC
  intro H locs ls hP hS hl
  exact lv_aload hx hb hdg (hl.2.2 _ _ hL).2 (k H locs ls hP hS hl)
theorem go_astore_n (hC : CX Ly X cc own Ts nL) {j : Fin 4} {x : Nat} (i : Nat) (hdg : decode cc pc = .ok (.astore_n j, 1)) (hi : j.val = i) (hj : i < L.length) (k : GO Ly X ce sl (pc + 1) (L.set i (some (.ref x))) rest M) : GO Ly X ce sl pc L (.ref x :: rest) M := by
  subst hi
  obtain ⟨p, l, e, R, s, m, args, below, meth, c, ⟨D, cy, ad⟩, A, Q⟩ := X
  obtain ⟨hx, hb, hml, hown, hts, hK, hI, hAd, hA, hlk⟩ := hC
  intro H locs ls hP hS hl
  exact lv_astore_n hx hb hdg rfl hl.has hj rfl (fun ls' h' => k H locs ls' hP hS (hl.store rfl h'))
theorem go_astore (hC : CX Ly X cc own Ts nL) {j : Nat} {x : Nat} (hdg : decode cc pc = .ok (.astore j, 2)) (hj : j < L.length) (k : GO Ly X ce sl (pc + 2) (L.set j (some (.ref x))) rest M) : GO Ly X ce sl pc L (.ref x :: rest) M := by
  obtain ⟨p, l, e, R, s, m, args, below, meth, c, ⟨D, cy, ad⟩, A, Q⟩ := X
  obtain ⟨hx, hb, hml, hown, hts, hK, hI, hAd, hA, hlk⟩ := hC
  intro H locs ls hP hS hl
  exact lv_astore hx hb hdg hl.has hj rfl (fun ls' h' => k H locs ls' hP hS (hl.store rfl h'))
theorem go_iinc (hC : CX Ly X cc own Ts nL) {j : Nat} {n : Int} {x v : Int32} (hdg : decode cc pc = .ok (.iinc j n, 3)) (hL : L[j]? = some (some (.int x))) (hv : Int32.ofInt n = v) (k : GO Ly X ce sl (pc + 3) (L.set j (some (.int (x + v)))) rest M) : GO Ly X ce sl pc L rest M := by
  subst hv
  obtain ⟨p, l, e, R, s, m, args, below, meth, c, ⟨D, cy, ad⟩, A, Q⟩ := X
  obtain ⟨hx, hb, hml, hown, hts, hK, hI, hAd, hA, hlk⟩ := hC
  intro H locs ls hP hS hl
  obtain ⟨i0, hi0⟩ := List.getElem?_of_mem (gm_pairs_mem.mpr hL)
  exact lv_iinc hx hb hdg hl.has hi0 rfl (List.getElem?_eq_some_iff.mp hL).1 rfl (fun ls' h' => k H locs ls' hP hS (hl.store rfl h'))
theorem go_if_eq (hC : CX Ly X cc own Ts nL) {x : Int32} {off : Int} (tgt : Nat) (hdg : decode cc pc = .ok (.ifCond .eq off, 3)) (ht : (pc : Int) + off = (tgt : Int)) (kt : x = 0 → GO Ly X ce sl tgt L rest M) (kf : ¬ (x = 0) → GO Ly X ce sl (pc + 3) L rest M) : GO Ly X ce sl pc L (.int x :: rest) M := by
  obtain ⟨p, l, e, R, s, m, args, below, meth, c, ⟨D, cy, ad⟩, A, Q⟩ := X
  obtain ⟨hx, hb, hml, hown, hts, hK, hI, hAd, hA, hlk⟩ := hC
  intro H locs ls hP hS hl
  exact lv_if_eq hx hb hdg ht (fun h => kt h H locs ls hP hS hl) (fun h => kf h H locs ls hP hS hl)
theorem go_icmp_eq (hC : CX Ly X cc own Ts nL) {x y : Int32} {off : Int} (tgt : Nat) (hdg : decode cc pc = .ok (.if_icmp .eq off, 3)) (ht : (pc : Int) + off = (tgt : Int)) (kt : x = y → GO Ly X ce sl tgt L rest M) (kf : ¬ (x = y) → GO Ly X ce sl (pc + 3) L rest M) : GO Ly X ce sl pc L (.int y :: .int x :: rest) M := by
  obtain ⟨p, l, e, R, s, m, args, below, meth, c, ⟨D, cy, ad⟩, A, Q⟩ := X
  obtain ⟨hx, hb, hml, hown, hts, hK, hI, hAd, hA, hlk⟩ := hC
  intro H locs ls hP hS hl
  exact lv_icmp_eq hx hb hdg ht (fun h => kt h H locs ls hP hS hl) (fun h => kf h H locs ls hP hS hl)
theorem go_if_ne (hC : CX Ly X cc own Ts nL) {x : Int32} {off : Int} (tgt : Nat) (hdg : decode cc pc = .ok (.ifCond .ne off, 3)) (ht : (pc : Int) + off = (tgt : Int)) (kt : ¬ x = 0 → GO Ly X ce sl tgt L rest M) (kf : x = 0 → GO Ly X ce sl (pc + 3) L rest M) : GO Ly X ce sl pc L (.int x :: rest) M := by
  obtain ⟨p, l, e, R, s, m, args, below, meth, c, ⟨D, cy, ad⟩, A, Q⟩ := X
  obtain ⟨hx, hb, hml, hown, hts, hK, hI, hAd, hA, hlk⟩ := hC
  intro H locs ls hP hS hl
  exact lv_if_ne hx hb hdg ht (fun h => kt h H locs ls hP hS hl) (fun h => kf h H locs ls hP hS hl)
theorem go_icmp_ne (hC : CX Ly X cc own Ts nL) {x y : Int32} {off : Int} (tgt : Nat) (hdg : decode cc pc = .ok (.if_icmp .ne off, 3)) (ht : (pc : Int) + off = (tgt : Int)) (kt : ¬ x = y → GO Ly X ce sl tgt L rest M) (kf : x = y → GO Ly X ce sl (pc + 3) L rest M) : GO Ly X ce sl pc L (.int y :: .int x :: rest) M := by
  obtain ⟨p, l, e, R, s, m, args, below, meth, c, ⟨D, cy, ad⟩, A, Q⟩ := X
  obtain ⟨hx, hb, hml, hown, hts, hK, hI, hAd, hA, hlk⟩ := hC
  intro H locs ls hP hS hl
  exact lv_icmp_ne hx hb hdg ht (fun h => kt h H locs ls hP hS hl) (fun h => kf h H locs ls hP hS hl)
theorem go_if_lt (hC : CX Ly X cc own Ts nL) {x : Int32} {off : Int} (tgt : Nat) (hdg : decode cc pc = .ok (.ifCond .lt off, 3)) (ht : (pc : Int) + off = (tgt : Int)) (kt : x < 0 → GO Ly X ce sl tgt L rest M) (kf : ¬ (x < 0) → GO Ly X ce sl (pc + 3) L rest M) : GO Ly X ce sl pc L (.int x :: rest) M := by
  obtain ⟨p, l, e, R, s, m, args, below, meth, c, ⟨D, cy, ad⟩, A, Q⟩ := X
  obtain ⟨hx, hb, hml, hown, hts, hK, hI, hAd, hA, hlk⟩ := hC
  intro H locs ls hP hS hl
  exact lv_if_lt hx hb hdg ht (fun h => kt h H locs ls hP hS hl) (fun h => kf h H locs ls hP hS hl)
theorem go_icmp_lt (hC : CX Ly X cc own Ts nL) {x y : Int32} {off : Int} (tgt : Nat) (hdg : decode cc pc = .ok (.if_icmp .lt off, 3)) (ht : (pc : Int) + off = (tgt : Int)) (kt : x < y → GO Ly X ce sl tgt L rest M) (kf : ¬ (x < y) → GO Ly X ce sl (pc + 3) L rest M) : GO Ly X ce sl pc L (.int y :: .int x :: rest) M := by
  obtain ⟨p, l, e, R, s, m, args, below, meth, c, ⟨D, cy, ad⟩, A, Q⟩ := X
  obtain ⟨hx, hb, hml, hown, hts, hK, hI, hAd, hA, hlk⟩ := hC
  intro H locs ls hP hS hl
  exact lv_icmp_lt hx hb hdg ht (fun h => kt h H locs ls hP hS hl) (fun h => kf h H locs ls hP hS hl)
theorem go_if_ge (hC : CX Ly X cc own Ts nL) {x : Int32} {off : Int} (tgt : Nat) (hdg : decode cc pc = .ok (.ifCond .ge off, 3)) (ht : (pc : Int) + off = (tgt : Int)) (kt : 0 ≤ x → GO Ly X ce sl tgt L rest M) (kf : ¬ (0 ≤ x) → GO Ly X ce sl (pc + 3) L rest M) : GO Ly X ce sl pc L (.int x :: rest) M := by
  obtain ⟨p, l, e, R, s, m, args, below, meth, c, ⟨D, cy, ad⟩, A, Q⟩ := X
  obtain ⟨hx, hb, hml, hown, hts, hK, hI, hAd, hA, hlk⟩ := hC
  intro H locs ls hP hS hl
  exact lv_if_ge hx hb hdg ht (fun h => kt h H locs ls hP hS hl) (fun h => kf h H locs ls hP hS hl)
theorem go_icmp_ge (hC : CX Ly X cc own Ts nL) {x y : Int32} {off : Int} (tgt : Nat) (hdg : decode cc pc = .ok (.if_icmp .ge off, 3)) (ht : (pc : Int) + off = (tgt : Int)) (kt : y ≤ x → GO Ly X ce sl tgt L rest M) (kf : ¬ (y ≤ x) → GO Ly X ce sl (pc + 3) L rest M) : GO Ly X ce sl pc L (.int y :: .int x :: rest) M := by
  obtain ⟨p, l, e, R, s, m, args, below, meth, c, ⟨D, cy, ad⟩, A, Q⟩ := X
  obtain ⟨hx, hb, hml, hown, hts, hK, hI, hAd, hA, hlk⟩ := hC
  intro H locs ls hP hS hl
  exact lv_icmp_ge hx hb hdg ht (fun h => kt h H locs ls hP hS hl) (fun h => kf h H locs ls hP hS hl)
theorem go_if_gt (hC : CX Ly X cc own Ts nL) {x : Int32} {off : Int} (tgt : Nat) (hdg : decode cc pc = .ok (.ifCond .gt off, 3)) (ht : (pc : Int) + off = (tgt : Int)) (kt : 0 < x → GO Ly X ce sl tgt L rest M) (kf : ¬ (0 < x) → GO Ly X ce sl (pc + 3) L rest M) : GO Ly X ce sl pc L (.int x :: rest) M := by
  obtain ⟨p, l, e, R, s, m, args, below, meth, c, ⟨D, cy, ad⟩, A, Q⟩ := X
  obtain ⟨hx, hb, hml, hown, hts, hK, hI, hAd, hA, hlk⟩ := hC
  intro H locs ls hP hS hl
  exact lv_if_gt hx hb hdg ht (fun h => kt h H locs ls hP hS hl) (fun h => kf h H locs ls hP hS hl)
theorem go_icmp_gt (hC : CX Ly X cc own Ts nL) {x y : Int32} {off : Int} (tgt : Nat) (hdg : decode cc pc = .ok (.if_icmp .gt off, 3)) (ht : (pc : Int) + off = (tgt : Int)) (kt : y < x → GO Ly X ce sl tgt L rest M) (kf : ¬ (y < x) → GO Ly X ce sl (pc + 3) L rest M) : GO Ly X ce sl pc L (.int y :: .int x :: rest) M := by
  obtain ⟨p, l, e, R, s, m, args, below, meth, c, ⟨D, cy, ad⟩, A, Q⟩ := X
  obtain ⟨hx, hb, hml, hown, hts, hK, hI, hAd, hA, hlk⟩ := hC
  intro H locs ls hP hS hl
  exact lv_icmp_gt hx hb hdg ht (fun h => kt h H locs ls hP hS hl) (fun h => kf h H locs ls hP hS hl)
theorem go_if_le (hC : CX Ly X cc own Ts nL) {x : Int32} {off : Int} (tgt : Nat) (hdg : decode cc pc = .ok (.ifCond .le off, 3)) (ht : (pc : Int) + off = (tgt : Int)) (kt : x ≤ 0 → GO Ly X ce sl tgt L rest M) (kf : ¬ (x ≤ 0) → GO Ly X ce sl (pc + 3) L rest M) : GO Ly X ce sl pc L (.int x :: rest) M := by
  obtain ⟨p, l, e, R, s, m, args, below, meth, c, ⟨D, cy, ad⟩, A, Q⟩ := X
  obtain ⟨hx, hb, hml, hown, hts, hK, hI, hAd, hA, hlk⟩ := hC
  intro H locs ls hP hS hl
  exact lv_if_le hx hb hdg ht (fun h => kt h H locs ls hP hS hl) (fun h => kf h H locs ls hP hS hl)
theorem go_icmp_le (hC : CX Ly X cc own Ts nL) {x y : Int32} {off : Int} (tgt : Nat) (hdg : decode cc pc = .ok (.if_icmp .le off, 3)) (ht : (pc : Int) + off = (tgt : Int)) (kt : x ≤ y → GO Ly X ce sl tgt L rest M) (kf : ¬ (x ≤ y) → GO Ly X ce sl (pc + 3) L rest M) : GO Ly X ce sl pc L (.int y :: .int x :: rest) M := by
  obtain ⟨p, l, e, R, s, m, args, below, meth, c, ⟨D, cy, ad⟩, A, Q⟩ := X
  obtain ⟨hx, hb, hml, hown, hts, hK, hI, hAd, hA, hlk⟩ := hC
  intro H locs ls hP hS hl
  exact lv_icmp_le hx hb hdg ht (fun h => kt h H locs ls hP hS hl) (fun h => kf h H locs ls hP hS hl)
theorem go_goto (hC : CX Ly X cc own Ts nL) {off : Int} (tgt : Nat) (hdg : decode cc pc = .ok (.goto off, 3)) (ht : (pc : Int) + off = (tgt : Int)) (k : GO Ly X ce sl tgt L rest M) : GO Ly X ce sl pc L rest M := by
  obtain ⟨p, l, e, R, s, m, args, below, meth, c, ⟨D, cy, ad⟩, A, Q⟩ := X
  obtain ⟨hx, hb, hml, hown, hts, hK, hI, hAd, hA, hlk⟩ := hC
  intro H locs ls hP hS hl
  exact lv_goto hx hb hdg ht (k H locs ls hP hS hl)
theorem go_ldc (hC : CX Ly X cc own Ts nL) {index : Nat} {v : Int32} (hc : Cond.constant own index v ∈ Ts) (hdg : decode cc pc = .ok (.ldc index, 2)) (k : GO Ly X ce sl (pc + 2) L (.int v :: rest) M) : GO Ly X ce sl pc L rest M := by
  obtain ⟨p, l, e, R, s, m, args, below, meth, c, ⟨D, cy, ad⟩, A, Q⟩ := X
  obtain ⟨hx, hb, hml, hown, hts, hK, hI, hAd, hA, hlk⟩ := hC
  intro H locs ls hP hS hl
  exact lv_ldc hx hb hown (hts _ hc) hdg (k H locs ls hP hS hl)
theorem go_ldcw (hC : CX Ly X cc own Ts nL) {index : Nat} {v : Int32} (hc : Cond.constant own index v ∈ Ts) (hdg : decode cc pc = .ok (.ldc_w index, 3)) (k : GO Ly X ce sl (pc + 3) L (.int v :: rest) M) : GO Ly X ce sl pc L rest M := by
  obtain ⟨p, l, e, R, s, m, args, below, meth, c, ⟨D, cy, ad⟩, A, Q⟩ := X
  obtain ⟨hx, hb, hml, hown, hts, hK, hI, hAd, hA, hlk⟩ := hC
  intro H locs ls hP hS hl
  exact lv_ldcw hx hb hown (hts _ hc) hdg (k H locs ls hP hS hl)
theorem go_tabOut (hC : CX Ly X cc own Ts nL) {dflt lo hi : Int} {offs : Array Int} {len : Nat} {x : Int32} (tgt : Nat) (hdg : decode cc pc = .ok (.tableswitch dflt lo hi offs, len)) (h : x.toInt < lo ∨ hi < x.toInt) (ht : (pc : Int) + dflt = (tgt : Int)) (k : GO Ly X ce sl tgt L rest M) : GO Ly X ce sl pc L (.int x :: rest) M := by
  obtain ⟨p, l, e, R, s, m, args, below, meth, c, ⟨D, cy, ad⟩, A, Q⟩ := X
  obtain ⟨hx, hb, hml, hown, hts, hK, hI, hAd, hA, hlk⟩ := hC
  intro H locs ls hP hS hl
  exact lv_tableOut hx hb hdg h ht (k H locs ls hP hS hl)
theorem go_tabIn (hC : CX Ly X cc own Ts nL) {dflt lo hi : Int} {offs : Array Int} {len : Nat} {x : Int32} {off : Int} (tgt : Nat) (hdg : decode cc pc = .ok (.tableswitch dflt lo hi offs, len)) (h1 : ¬ x.toInt < lo) (h2 : ¬ hi < x.toInt) (ho : offs[(x.toInt - lo).toNat]? = some off) (ht : (pc : Int) + off = (tgt : Int)) (k : GO Ly X ce sl tgt L rest M) : GO Ly X ce sl pc L (.int x :: rest) M := by
  obtain ⟨p, l, e, R, s, m, args, below, meth, c, ⟨D, cy, ad⟩, A, Q⟩ := X
  obtain ⟨hx, hb, hml, hown, hts, hK, hI, hAd, hA, hlk⟩ := hC
  intro H locs ls hP hS hl
  exact lv_tableIn hx hb hdg h1 h2 ho ht (k H locs ls hP hS hl)
theorem gm_at_o {Ly : gm_L} {cy : Nat → ClassId} {ad : Nat → Nat → Nat} {M : gm_M} {k n ci N : Nat} {sr : Nat → Option Nat} (hk : (Ly k).2 = .inl (ci, N, sr)) : gm_cell Ly cy ad M k n = .inr (ci, (List.range N).map (gm_f sr ad M k n)) := by
  unfold gm_cell
  rw [hk]
theorem gm_at_i {Ly : gm_L} {cy : Nat → ClassId} {ad : Nat → Nat → Nat} {M : gm_M} {k n t len : Nat} (hk : (Ly k).2 = .inr (.inl (t, len))) : gm_cell Ly cy ad M k n = .inl (cy t, len, .inl (fun j => M k j n)) := by
  unfold gm_cell
  rw [hk]
theorem gm_at_r {Ly : gm_L} {cy : Nat → ClassId} {ad : Nat → Nat → Nat} {M : gm_M} {k n k' mu len t : Nat} (hk : (Ly k).2 = .inr (.inr (k', mu, len, t))) : gm_cell Ly cy ad M k n = .inl (cy t, len, .inr (.inr (.inr (.inr (fun j => some (ad k' (mu * n + j))))))) := by
  unfold gm_cell
  rw [hk]
theorem go_geti (hC : CX Ly X cc own Ts nL) {k n ci N index : Nat} {C : String} {T : u_T} {sr : Nat → Option Nat} (f : Nat) (hin : ∀ w ∈ u_ws C T N, w ∈ Ts) (hc : vwCl[ci]? = some (C, T, N)) (hk : (Ly k).2 = .inl (ci, N, sr)) (hf : f < N) (hs : sr f = none) (hlink : Cond.fieldLink own index (T f).1 (T f).2.1 (T f).2.2.1 ∈ Ts) (hn : n < (Ly k).1) (hdg : decode cc pc = .ok (.getfield index, 3)) (kk : GO Ly X ce sl (pc + 3) L (.int (M k f n) :: rest) M) : GO Ly X ce sl pc L (.ref (gm_ad X k n) :: rest) M := by
  obtain ⟨p, l, e, R, s, m, args, below, meth, c, ⟨D, cy, ad⟩, A, Q⟩ := X
  obtain ⟨hx, hb, hml, hown, hts, hK, hI, hAd, hA, hlk⟩ := hC
  intro H locs ls hP hS hl
  have h1 := hP k n hn
  rw [gm_at_o hk] at h1
  exact va_get (v := .int (M k f n)) hx hb hts hin hown hK (gm_one h1) 0 rfl hc f hf (hts _ hlink) (fun _ h9 => h9) (by rw [List.getElem?_map, List.getElem?_range hf]; simp [gm_f, hs]) hdg (kk H locs ls hP hS hl)
theorem go_getr (hC : CX Ly X cc own Ts nL) {k n ci N index : Nat} {C : String} {T : u_T} {sr : Nat → Option Nat} {k' : Nat} (f : Nat) (hin : ∀ w ∈ u_ws C T N, w ∈ Ts) (hc : vwCl[ci]? = some (C, T, N)) (hk : (Ly k).2 = .inl (ci, N, sr)) (hf : f < N) (hs : sr f = some k') (hlink : Cond.fieldLink own index (T f).1 (T f).2.1 (T f).2.2.1 ∈ Ts) (hn : n < (Ly k).1) (hdg : decode cc pc = .ok (.getfield index, 3)) (kk : GO Ly X ce sl (pc + 3) L (.ref (gm_ad X k' n) :: rest) M) : GO Ly X ce sl pc L (.ref (gm_ad X k n) :: rest) M := by
  obtain ⟨p, l, e, R, s, m, args, below, meth, c, ⟨D, cy, ad⟩, A, Q⟩ := X
  obtain ⟨hx, hb, hml, hown, hts, hK, hI, hAd, hA, hlk⟩ := hC
  intro H locs ls hP hS hl
  have h1 := hP k n hn
  rw [gm_at_o hk] at h1
  exact va_get (v := .ref (ad k' n)) hx hb hts hin hown hK (gm_one h1) 0 rfl hc f hf (hts _ hlink) (fun _ h9 => h9) (by rw [List.getElem?_map, List.getElem?_range hf]; simp [gm_f, hs]) hdg (kk H locs ls hP hS hl)
theorem gm_putW {p : Program} {l : Launch} {e : Env} {R : Room} {s : State} {m : MethodId} {args : Array Value} {below : List Frame} {meth : Method} {c : Code} {H : Heap} {locs : List Loc} {cells slots : Nat} {Q : State → Prop} {D : va_G} {cl : List vw_C} {a : Nat} {tys : List (ClassId × FieldType)} {ls : Array Slot} (hexec : p.tables.exec = Jvm.exec) (hb : c.code = cc) {ref C : String} {T : u_T} {N ci index : Nat} (hts : ∀ w ∈ Ts, w.before args s = true) (hin : ∀ w ∈ u_ws C T N, w ∈ Ts) (ty0 : Nat → FieldType) (hty : ∀ k, k < N → parseFieldDescriptor (T k).2.2.1 = some (ty0 k)) (hnm : ∀ a, a < N → ∀ b, b < N → a ≠ b → (T a).2.1 ≠ (T b).2.1) (hown : s.vm.findClass own = some m.cls) (hK : va_K D cl tys s) {fs : List Value} (hat : va_at D cl (a, .inr (ci, fs)) H) (hc : cl[ci]? = some (C, T, N)) (k : Nat) (hk : k < N) (hlink : (Cond.fieldLink own index ref (T k).2.1 (T k).2.2.1).before args s = true) (hsame : ∀ x, s.fieldFound? (T k).1 (T k).2.1 (T k).2.2.1 = some x → s.fieldFound? ref (T k).2.1 (T k).2.2.1 = some x) (hfin : (T k).2.2.2 = false) {v : Value} (hn : narrow (ty0 k) v = v) (hfit : fits (ty0 k) v = true) (hl : k < fs.length)
    (hdg : decode cc pc = .ok (.putfield index, 3)) (kk : ∀ (H1 : Heap) (i : Nat), va_at D cl (a, .inr (ci, fs.set k v)) H1 → H1.size = H.size → (∀ q : Nat, q ≠ a → H1[q]? = H[q]?) → W p l e R s m args below meth c H1 (locs ++ [⟨a, i⟩]) cells slots Q (F0 m (pc + 3) ls rest)) : W p l e R s m args below meth c H locs cells slots Q (F0 m pc ls (v :: .ref a :: rest)) := by
  have hap := va_apart (own := own) hts hin ty0 hty hnm hK hc
  obtain ⟨r, h1, cell, q1, q2, q3, q4⟩ := hat
  have hr : r = (C, T, N) := Option.some.inj (h1.symm.trans hc)
  subst hr
  obtain ⟨hS, hfc, kC, hkC, hkind⟩ := hK.1 ci _ hc
  obtain ⟨cf, kf, fi, f, hi, hsl⟩ := hS k hk
  have hlay := hts _ (hin _ (u_in_lay hk))
  unfold u_lay at hlay
  rw [if_neg (by rw [hfin]; decide)] at hlay
  have hst := (u_facts hfc hkC (u_lays hts hin hk) hi).1
  have h6 := u_store hfc hkC hkind hlay hi (hty k hk) hn hfit
  refine W.putK hexec hb (f := f) ⟨hown, hlink, ⟨_, _, _, hsame _ hi⟩, hst⟩ (by rw [q2]; exact h6) q1 q3 (by rw [hsl]; exact k2_hasslot (q4 k hk)) rfl rfl hdg fun H' e1 e2 e3 => ?_
  rw [hsl] at e1 ⊢
  exact kk H' _ ⟨_, hc, t_OB.to (V := updV (vp_V fs) k v) ⟨_, e1, q2, q3, t_set q4 hap hk v⟩ (fun j _ => vp_updV_set hl v j)⟩ e2 e3
theorem go_puti (hC : CX Ly X cc own Ts nL) {k n ci N index : Nat} {C : String} {T : u_T} {sr : Nat → Option Nat} {x : Int32} (f : Nat) (hin : ∀ w ∈ u_ws C T N, w ∈ Ts) (hc : vwCl[ci]? = some (C, T, N)) (ty0 : Nat → FieldType) (hty : ∀ k, k < N → parseFieldDescriptor (T k).2.2.1 = some (ty0 k)) (hnm : ∀ a, a < N → ∀ b, b < N → a ≠ b → (T a).2.1 ≠ (T b).2.1) (hk : (Ly k).2 = .inl (ci, N, sr)) (hf : f < N) (hs : sr f = none) (hlink : Cond.fieldLink own index (T f).1 (T f).2.1 (T f).2.2.1 ∈ Ts) (hn : n < (Ly k).1) (hfin : (T f).2.2.2 = false) (hnar : narrow (ty0 f) (.int x) = .int x) (hfit : fits (ty0 f) (.int x) = true) (hdg : decode cc pc = .ok (.putfield index, 3)) (kk : GO Ly X ce sl (pc + 3) L rest (gm_up M k f n x)) : GO Ly X ce sl pc L (.int x :: .ref (gm_ad X k n) :: rest) M := by
  obtain ⟨p, l, e, R, s, m, args, below, meth, c, ⟨D, cy, ad⟩, A, Q⟩ := X
  obtain ⟨hx, hb, hml, hown, hts, hK, hI, hAd, hA, hlk⟩ := hC
  intro H locs ls hP hS hl
  have h1 := hP k n hn
  rw [gm_at_o hk] at h1
  refine gm_putW hx hb hts hin ty0 hty hnm hown hK h1 hc f hf (hts _ hlink) (fun _ h9 => h9) hfin hnar hfit (by simp; exact hf) hdg (fun H1 i e1 e2 e3 => ?_)
  refine kk H1 _ ls (hP.set hI hn ?_ e3) (hS.put e2 e3 (hAd k n hn)) hl
  rw [gm_at_o hk]
  rw [gm_set (g' := gm_f sr ad (gm_up M k f n x) k n) (by simp [gm_f, hs, gm_up]) (fun j hj => by simp [gm_f, gm_up, hj])] at e1
  exact e1
theorem go_iald (hC : CX Ly X cc own Ts nL) {k n len : Nat} {i : Int32} (hk : (Ly k).2 = .inr (.inl (0, len))) (hn : n < (Ly k).1) {j : Nat} (hin : vp_in i len) (hj : i.toNatClampNeg = j) (hdg : decode cc pc = .ok (.iaload, 1)) (kk : GO Ly X ce sl (pc + 1) L (.int (M k j n) :: rest) M) : GO Ly X ce sl pc L (.int i :: .ref (gm_ad X k n) :: rest) M := by
  subst hj
  obtain ⟨p, l, e, R, s, m, args, below, meth, c, ⟨D, cy, ad⟩, A, Q⟩ := X
  obtain ⟨hx, hb, hml, hown, hts, hK, hI, hAd, hA, hlk⟩ := hC
  intro H locs ls hP hS hl
  have h1 := hP k n hn
  rw [gm_at_i hk] at h1
  exact va_iald hx hb hK (gm_one h1) 0 0 rfl rfl hin hdg (kk H locs ls hP hS hl)
theorem go_zald (hC : CX Ly X cc own Ts nL) {k n len : Nat} {i : Int32} (hk : (Ly k).2 = .inr (.inl (1, len))) (hn : n < (Ly k).1) {j : Nat} (hin : vp_in i len) (hj : i.toNatClampNeg = j) (hdg : decode cc pc = .ok (.baload, 1)) (kk : GO Ly X ce sl (pc + 1) L (.int (M k j n) :: rest) M) : GO Ly X ce sl pc L (.int i :: .ref (gm_ad X k n) :: rest) M := by
  subst hj
  obtain ⟨p, l, e, R, s, m, args, below, meth, c, ⟨D, cy, ad⟩, A, Q⟩ := X
  obtain ⟨hx, hb, hml, hown, hts, hK, hI, hAd, hA, hlk⟩ := hC
  intro H locs ls hP hS hl
  have h1 := hP k n hn
  rw [gm_at_i hk] at h1
  exact va_zald hx hb hK (gm_one h1) 0 1 rfl rfl hin hdg (kk H locs ls hP hS hl)
theorem go_iast (hC : CX Ly X cc own Ts nL) {k n len : Nat} {i x : Int32} (hk : (Ly k).2 = .inr (.inl (0, len))) (hn : n < (Ly k).1) {j : Nat} (hin : vp_in i len) (hj : i.toNatClampNeg = j) (hdg : decode cc pc = .ok (.iastore, 1)) (kk : GO Ly X ce sl (pc + 1) L rest (gm_up M k j n x)) : GO Ly X ce sl pc L (.int x :: .int i :: .ref (gm_ad X k n) :: rest) M := by
  subst hj
  obtain ⟨p, l, e, R, s, m, args, below, meth, c, ⟨D, cy, ad⟩, A, Q⟩ := X
  obtain ⟨hx, hb, hml, hown, hts, hK, hI, hAd, hA, hlk⟩ := hC
  intro H locs ls hP hS hl
  have h1 := hP k n hn
  rw [gm_at_i hk] at h1
  refine W.iast hx hb h1 ((hK.2 0 _ rfl).1 len (fun j => .int (M k j n))) (fun q => by cases q) (by show ¬ (i < 0 ∨ (arrV _ _ _).slots.size ≤ _); rw [arrV_size]; exact hin) rfl rfl hdg fun H1 e1 e2 e3 => ?_
  refine kk H1 _ ls (hP.set hI hn ?_ e3) (hS.put e2 e3 (hAd k n hn)) hl
  rw [gm_at_i hk]
  show H1[ad k n]? = some (vp_cell _ _)
  rw [e1, vp_cell_i, vp_cell_i, arrV_store]
  congr 2
  funext q
  by_cases hq : q = i.toNatClampNeg
  · subst hq
    simp [updV, gm_up, vp_nar]
    try rfl
  · simp [updV, gm_up, hq]
theorem go_zast (hC : CX Ly X cc own Ts nL) {k n len : Nat} {i x : Int32} (hk : (Ly k).2 = .inr (.inl (1, len))) (hn : n < (Ly k).1) {j : Nat} (hin : vp_in i len) (hj : i.toNatClampNeg = j) (hdg : decode cc pc = .ok (.bastore, 1)) (kk : GO Ly X ce sl (pc + 1) L rest (gm_up M k j n (vp_nar .boolean x))) : GO Ly X ce sl pc L (.int x :: .int i :: .ref (gm_ad X k n) :: rest) M := by
  subst hj
  obtain ⟨p, l, e, R, s, m, args, below, meth, c, ⟨D, cy, ad⟩, A, Q⟩ := X
  obtain ⟨hx, hb, hml, hown, hts, hK, hI, hAd, hA, hlk⟩ := hC
  intro H locs ls hP hS hl
  have h1 := hP k n hn
  rw [gm_at_i hk] at h1
  refine W.zast hx hb h1 ((hK.2 1 _ rfl).1 len (fun j => .int (M k j n))) (fun q => by cases q) (by show ¬ (i < 0 ∨ (arrV _ _ _).slots.size ≤ _); rw [arrV_size]; exact hin) rfl rfl hdg fun H1 e1 e2 e3 => ?_
  refine kk H1 _ ls (hP.set hI hn ?_ e3) (hS.put e2 e3 (hAd k n hn)) hl
  rw [gm_at_i hk]
  show H1[ad k n]? = some (vp_cell _ _)
  rw [e1, vp_cell_i, vp_cell_i, arrV_store]
  congr 2
  funext q
  by_cases hq : q = i.toNatClampNeg
  · subst hq
    simp [updV, gm_up, vp_nar]
    try rfl
  · simp [updV, gm_up, hq]
theorem go_aald (hC : CX Ly X cc own Ts nL) {k n k' mu len t : Nat} {i : Int32} {C : String} (hk : (Ly k).2 = .inr (.inr (k', mu, len, t))) (ht : ∀ cy, (gm_ty cy)[t]? = some (cy t, .object C)) (hn : n < (Ly k).1) {j : Nat} (hin : vp_in i len) (hj : mu * n + i.toNatClampNeg = j) (hdg : decode cc pc = .ok (.aaload, 1)) (kk : GO Ly X ce sl (pc + 1) L (.ref (gm_ad X k' j) :: rest) M) : GO Ly X ce sl pc L (.int i :: .ref (gm_ad X k n) :: rest) M := by
  subst hj
  obtain ⟨p, l, e, R, s, m, args, below, meth, c, ⟨D, cy, ad⟩, A, Q⟩ := X
  obtain ⟨hx, hb, hml, hown, hts, hK, hI, hAd, hA, hlk⟩ := hC
  intro H locs ls hP hS hl
  have h1 := hP k n hn
  rw [gm_at_r hk] at h1
  exact va_aldq hx hb hK (gm_one h1) 0 t rfl (ht cy) hin hdg (kk H locs ls hP hS hl)
theorem go_alenr (hC : CX Ly X cc own Ts nL) {k n k' mu len t : Nat} {v : Int32} {C : String} (hk : (Ly k).2 = .inr (.inr (k', mu, len, t))) (ht : ∀ cy, (gm_ty cy)[t]? = some (cy t, .object C)) (hn : n < (Ly k).1) (hv : Int32.ofNat len = v) (hdg : decode cc pc = .ok (.arraylength, 1)) (kk : GO Ly X ce sl (pc + 1) L (.int v :: rest) M) : GO Ly X ce sl pc L (.ref (gm_ad X k n) :: rest) M := by
  obtain ⟨p, l, e, R, s, m, args, below, meth, c, ⟨D, cy, ad⟩, A, Q⟩ := X
  obtain ⟨hx, hb, hml, hown, hts, hK, hI, hAd, hA, hlk⟩ := hC
  intro H locs ls hP hS hl
  have h1 := hP k n hn
  rw [gm_at_r hk] at h1
  exact va_alen hx hb hK (gm_one h1) 0 t rfl (ht cy) hv hdg (kk H locs ls hP hS hl)
theorem go_widen {c2 s2 : Nat} {st : List Value} (h1 : ce ≤ c2) (h2 : sl ≤ s2) (k : GO Ly X c2 s2 pc L st M) : GO Ly X ce sl pc L st M := by
  obtain ⟨p, l, e, R, s, m, args, below, meth, c, ⟨D, cy, ad⟩, A, Q⟩ := X
  intro H locs ls hP hS hl
  exact W.widen h1 h2 (k H locs ls hP hS hl)
theorem go_mem {M' : gm_M} {st : List Value} (h : M = M') (k : GO Ly X ce sl pc L st M') : GO Ly X ce sl pc L st M := h ▸ k
theorem go_aload_nA (hC : CX Ly X cc own Ts nL) {j : Fin 4} {v : Value} (hv : v = .null ∨ ∃ a, v = .ref a) (hdg : decode cc pc = .ok (.aload_n j, 1)) (hL : L[j.val]? = some (some v)) (k : GO Ly X ce sl (pc + 1) L (v :: rest) M) : GO Ly X ce sl pc L rest M := by
  rcases hv with rfl | ⟨a, rfl⟩
  · obtain ⟨p, l, e, R, s, m, args, below, meth, c, ⟨D, cy, ad⟩, A, Q⟩ := X
    obtain ⟨hx, hb, hml, hown, hts, hK, hI, hAd, hA, hlk⟩ := hC
    intro H locs ls hP hS hl
    exact lv_aload_nN hx hb hdg rfl (hl.2.2 _ _ hL).2 (k H locs ls hP hS hl)
  · exact go_aload_n hC hdg hL k
theorem go_astore_nA (hC : CX Ly X cc own Ts nL) {j : Fin 4} {v : Value} (hv : v = .null ∨ ∃ a, v = .ref a) (i : Nat) (hdg : decode cc pc = .ok (.astore_n j, 1)) (hi : j.val = i) (hj : i < L.length) (k : GO Ly X ce sl (pc + 1) (L.set i (some v)) rest M) : GO Ly X ce sl pc L (v :: rest) M := by
  rcases hv with rfl | ⟨a, rfl⟩
  · subst hi
    obtain ⟨p, l, e, R, s, m, args, below, meth, c, ⟨D, cy, ad⟩, A, Q⟩ := X
    obtain ⟨hx, hb, hml, hown, hts, hK, hI, hAd, hA, hlk⟩ := hC
    intro H locs ls hP hS hl
    exact lv_astore_nN hx hb hdg rfl hl.has hj rfl (fun ls' h' => k H locs ls' hP hS (hl.store rfl h'))
  · exact go_astore_n hC i hdg hi hj k
/-- an object of kind 0, or null -/
def ntV (ad : Nat → Nat → Nat) (o : Option Nat) : Value := match o with
  | none => .null
  | some c => .ref (ad 0 c)
theorem ntV_ok (ad : Nat → Nat → Nat) (o : Option Nat) : ntV ad o = .null ∨ ∃ a, ntV ad o = .ref a := by
  cases o with
  | none => exact Or.inl rfl
  | some c => exact Or.inr ⟨_, rfl⟩
theorem go_ifnull (hC : CX Ly X cc own Ts nL) {o : Option Nat} {off : Int} (tgt : Nat) (hdg : decode cc pc = .ok (.ifnull off, 3)) (ht : (pc : Int) + off = (tgt : Int)) (kn : o = none → GO Ly X ce sl tgt L rest M) (ks : ∀ c, o = some c → GO Ly X ce sl (pc + 3) L rest M) : GO Ly X ce sl pc L (ntV (gm_ad X) o :: rest) M := by
  cases o with
  | none =>
    have k := kn rfl
    obtain ⟨p, l, e, R, s, m, args, below, meth, c, ⟨D, cy, ad⟩, A, Q⟩ := X
    obtain ⟨hx, hb, hml, hown, hts, hK, hI, hAd, hA, hlk⟩ := hC
    intro H locs ls hP hS hl
    exact lv_ifnullN hx hb hdg ht (k H locs ls hP hS hl)
  | some c9 =>
    have k := ks c9 rfl
    obtain ⟨p, l, e, R, s, m, args, below, meth, c, ⟨D, cy, ad⟩, A, Q⟩ := X
    obtain ⟨hx, hb, hml, hown, hts, hK, hI, hAd, hA, hlk⟩ := hC
    intro H locs ls hP hS hl
    exact lv_ifnull hx hb hdg (k H locs ls hP hS hl)
theorem go_ifnonnull (hC : CX Ly X cc own Ts nL) {o : Option Nat} {off : Int} (tgt : Nat) (hdg : decode cc pc = .ok (.ifnonnull off, 3)) (ht : (pc : Int) + off = (tgt : Int)) (ks : ∀ c, o = some c → GO Ly X ce sl tgt L rest M) (kn : o = none → GO Ly X ce sl (pc + 3) L rest M) : GO Ly X ce sl pc L (ntV (gm_ad X) o :: rest) M := by
  cases o with
  | none =>
    have k := kn rfl
    obtain ⟨p, l, e, R, s, m, args, below, meth, c, ⟨D, cy, ad⟩, A, Q⟩ := X
    obtain ⟨hx, hb, hml, hown, hts, hK, hI, hAd, hA, hlk⟩ := hC
    intro H locs ls hP hS hl
    exact lv_ifnonnullN hx hb hdg (k H locs ls hP hS hl)
  | some c9 =>
    have k := ks c9 rfl
    obtain ⟨p, l, e, R, s, m, args, below, meth, c, ⟨D, cy, ad⟩, A, Q⟩ := X
    obtain ⟨hx, hb, hml, hown, hts, hK, hI, hAd, hA, hlk⟩ := hC
    intro H locs ls hP hS hl
    exact lv_ifnonnull hx hb hdg ht (k H locs ls hP hS hl)
theorem go_cast {M' : gm_M} {st st' : List Value} (h1 : st = st') (h2 : M = M') (k : GO Ly X ce sl pc L st' M') : GO Ly X ce sl pc L st M := h1 ▸ h2 ▸ k
theorem go_loc {L' : List (Option Value)} {st : List Value} (h : L = L') (k : GO Ly X ce sl pc L' st M) : GO Ly X ce sl pc L st M := h ▸ k
end GM
end
section
/-! ===== the layouts: the class's kinds (0 containers, 1 units, 2 the fibre, 3 .. its rows), the reference's (0 itself, f + 1 the row of its field f) ===== -/
def srC : Nat → Option Nat := fun f => match f with
  | 0 => some 10
  | 1 => some 11
  | _ => none
def srU : Nat → Option Nat := fun f => match f with
  | 0 => some 9
  | _ => none
def srS : Nat → Option Nat := fun f => match f with
  | 0 => some 3
  | 1 => some 4
  | 2 => some 5
  | 3 => some 6
  | 4 => some 7
  | 5 => some 8
  | _ => none
def lyC : gm_L := fun k => match k with
  | 0 => (10, .inl (0, 11, srC))
  | 1 => (5, .inl (1, 15, srU))
  | 2 => (1, .inl (2, 16, srS))
  | 3 => (1, .inr (.inr (1, 5, 5, 3)))
  | 4 => (1, .inr (.inl (1, 2)))
  | 5 => (1, .inr (.inl (0, 400)))
  | 6 => (1, .inr (.inl (0, 8)))
  | 7 => (1, .inr (.inl (0, 5)))
  | 8 => (1, .inr (.inl (0, 5)))
  | 9 => (5, .inr (.inr (0, 2, 2, 2)))
  | 10 => (10, .inr (.inl (0, 8)))
  | 11 => (10, .inr (.inl (0, 8)))
  | _ => (0, .inr (.inl (0, 0)))
def srM : Nat → Option Nat := fun f => match f with
  | 1 => some 2
  | 2 => some 3
  | 3 => some 4
  | 4 => some 5
  | 5 => some 6
  | 6 => some 7
  | 8 => some 9
  | 12 => some 13
  | 13 => some 14
  | 14 => some 15
  | 15 => some 16
  | 16 => some 17
  | 17 => some 18
  | 18 => some 19
  | 19 => some 20
  | 20 => some 21
  | 21 => some 22
  | 22 => some 23
  | 23 => some 24
  | 24 => some 25
  | 25 => some 26
  | 26 => some 27
  | 27 => some 28
  | 29 => some 30
  | 30 => some 31
  | 32 => some 33
  | 33 => some 34
  | 34 => some 35
  | 39 => some 40
  | 40 => some 41
  | _ => none
def lyM : gm_L := fun k => match k with
  | 0 => (1, .inl (3, 41, srM))
  | 2 => (1, .inr (.inl (0, 5)))
  | 3 => (1, .inr (.inl (0, 5)))
  | 4 => (1, .inr (.inl (0, 5)))
  | 5 => (1, .inr (.inl (0, 5)))
  | 6 => (1, .inr (.inl (0, 5)))
  | 7 => (1, .inr (.inl (1, 5)))
  | 9 => (1, .inr (.inl (1, 2)))
  | 13 => (1, .inr (.inl (0, 5)))
  | 14 => (1, .inr (.inl (0, 5)))
  | 15 => (1, .inr (.inl (0, 5)))
  | 16 => (1, .inr (.inl (1, 5)))
  | 17 => (1, .inr (.inl (0, 5)))
  | 18 => (1, .inr (.inl (0, 5)))
  | 19 => (1, .inr (.inl (0, 5)))
  | 20 => (1, .inr (.inl (0, 10)))
  | 21 => (1, .inr (.inl (0, 10)))
  | 22 => (1, .inr (.inl (0, 10)))
  | 23 => (1, .inr (.inl (0, 10)))
  | 24 => (1, .inr (.inl (0, 10)))
  | 25 => (1, .inr (.inl (0, 10)))
  | 26 => (1, .inr (.inl (0, 10)))
  | 27 => (1, .inr (.inl (0, 10)))
  | 28 => (1, .inr (.inl (0, 80)))
  | 30 => (1, .inr (.inl (0, 100)))
  | 31 => (1, .inr (.inl (1, 100)))
  | 33 => (1, .inr (.inl (0, 100)))
  | 34 => (1, .inr (.inl (0, 100)))
  | 35 => (1, .inr (.inl (0, 100)))
  | 40 => (1, .inr (.inl (0, 5)))
  | 41 => (1, .inr (.inl (0, 5)))
  | _ => (0, .inr (.inl (0, 0)))
/-- the two links over the nest -/
def NW (U : State) : Prop := va_Nw (.methodLinkNest RX1 65 yX2_mix RX2) U ∧ va_Nw (.methodLinkNest RX1 17 yX0_init RX2) U
theorem NW.warm {s U : State} (hW : s.WarmedH U.vm) (h : NW s) : NW U := ⟨va_Nw.warmM hW h.1, va_Nw.warmM hW h.2⟩
theorem NW.same {u U : State} (hv : u.vm = U.vm) (h : NW u) : NW U := ⟨va_Nw.same rfl hv h.1, va_Nw.same rfl hv h.2⟩
def PW (Ly : gm_L) (D : va_G) (cy : Nat → ClassId) (ad : Nat → Nat → Nat) (as : List Value) (M : gm_M) (sz : Nat) : Array Value → State → Prop := va_Pc as (fun U => U.heap.size = sz ∧ gm_P D Ly cy ad M U.heap ∧ va_K D vwCl (gm_ty cy) U ∧ NW U)
def AW (Ly : gm_L) (ad : Nat → Nat → Nat) (sz : Nat) : Nat → Prop := fun q => (∃ k n : Nat, n < (Ly k).1 ∧ q = ad k n) ∨ sz ≤ q
def QW (Ly : gm_L) (D : va_G) (cy : Nat → ClassId) (ad : Nat → Nat → Nat) (v : Option Value) (M' : gm_M) (sz : Nat) : Array Value → State → Outcome → State → Prop := fun _ st oc t => (oc = .returned v ∧ gm_P D Ly cy ad M' t.heap) ∧ va_F (AW Ly ad sz) st t
/-- a contract: over a world with the ints M the method answers v, and the ints are M' then -/
def KC (Ly : gm_L) (y : MethodName) (ws : List Cond) (rm : Room) (as : (Nat → Nat → Nat) → List Value) (M : gm_M) (v : (Nat → Nat → Nat) → Option Value) (M' : gm_M) : Prop := ∀ (l : Launch) (D : va_G) (cy : Nat → ClassId) (ad : Nat → Nat → Nat) (sz : Nat), gm_I Ly ad → Met l y ws rm (PW Ly D cy ad (as ad) M sz) (QW Ly D cy ad (v ad) M' sz) 0 0 (AW Ly ad sz)
theorem PW.blind {Ly : gm_L} {D : va_G} {cy : Nat → ClassId} {ad : Nat → Nat → Nat} {as : List Value} {M : gm_M} {sz : Nat} : FrameBlind (PW Ly D cy ad as M sz) := fun a U g mk q => by
  obtain ⟨q0, q1, qP, qK, qN⟩ := q
  exact ⟨q0, q1, qP, va_K.moved (u := U) (U := U.calling g mk a) (Vm.Alike.refl U.vm) qK, NW.same (u := U) (U := U.calling g mk a) rfl qN⟩
/-- the links over the nest, at the walk's start -/
def NX (X : gm_X) : Prop := NW (gm_s X)
theorem gm_entry (vs : List Value) (n : Nat) (hn : vs.length ≤ n) (hc : ∀ v ∈ vs, v.category = 1) : gm_ls ((lg_sl vs ++ List.replicate (n - (lg_sl vs).length) Slot.unset).toArray) (vs.map some ++ List.replicate (n - vs.length) none) := by
  have e : lg_sl vs = vs.map Slot.val := by
    clear hn
    induction vs with
    | nil => rfl
    | cons v vs ih =>
      have h1 := hc v List.mem_cons_self
      have h2 := ih (fun w h => hc w (List.mem_cons_of_mem _ h))
      show (if v.category = 2 then [Slot.val v, .second] else [Slot.val v]) ++ lg_sl vs = _
      rw [h1, h2]
      rfl
  have h := lv_entry vs (n := n) (by rw [e, List.length_map]; exact hn)
  refine ⟨by rw [h.1]; simp; omega, h.2.1, fun i v hi => ?_⟩
  by_cases hl : i < vs.length
  · rw [List.getElem?_append_left (by simpa using hl), List.getElem?_map] at hi
    rw [List.getElem?_eq_getElem hl] at hi
    simp at hi
    subst hi
    refine ⟨hc _ (List.getElem_mem hl), ?_⟩
    rw [e]
    simp only [List.getElem?_toArray]
    rw [List.getElem?_append_left (by simpa using hl)]
    simp [hl]
  · rw [List.getElem?_append_right (by simp; omega)] at hi
    rw [List.getElem?_replicate] at hi
    split at hi <;> cases hi
theorem KC.of_i {Ly : gm_L} {y : MethodName} {ws ws' : List Cond} {rm : Room} {cc : ByteArray} {maxL : Nat} {own : String} {as : (Nat → Nat → Nat) → List Value} {M M' : gm_M} {r : Int32} (hy : plainName y.cls = true) (hw : ws = Cond.code y cc maxL (some .int) :: ws') (hown : y.cls = own) (hlen : ∀ ad, (as ad).length ≤ maxL) (hcat : ∀ ad, ∀ v ∈ as ad, v.category = 1) 
    (body : ∀ X : gm_X, CX Ly X cc own ws maxL → gm_R X = rm → NX X → (∀ (pc : Nat) (L : List (Option Value)), decode cc pc = .ok (.ireturn, 1) → GO Ly X 0 0 pc L [.int r] M') → GO Ly X 0 0 0 ((as (gm_ad X)).map some ++ List.replicate (maxL - (as (gm_ad X)).length) none) [] M) : KC Ly y ws rm as M (fun _ => some (.int r)) M' := by
  intro l D cy ad sz hI
  refine Met.ofW (cc := cc) (maxL := maxL) (ret := some .int) hy hw ?_
  intro p e s m args below meth c s₁ B hml hv
  obtain ⟨rfl, hsz, hP, hK, hN⟩ := hv
  have hx := B.exec
  have hb := B.bytes
  have hr := B.returns
  have hts := atoms_spec (ws := ws) B.pre
  have hown' : s.vm.findClass own = some m.cls := by rw [← hown]; exact findClass_of_methodNamed B.named
  have hlocks := B.notSynchronized
  subst hsz
  have hC : CX Ly (p, l, e, rm, s, m, (as ad).toArray, below, meth, c, (D, cy, ad), AW Ly ad s.heap.size, MQ below (QW Ly D cy ad ((fun _ => some (.int r)) ad) M' s.heap.size) (as ad).toArray s 0 0 (AW Ly ad s.heap.size)) cc own ws maxL := ⟨hx, hb, hml, hown', hts, hK, hI, fun k n h => Or.inl ⟨k, n, h, rfl⟩, fun q h => Or.inr h, hlocks⟩
  have key := body _ hC rfl hN (by
    intro pc L hd2
    have hx2 := hx
    have hb2 := hb
    intro H locs ls hP2 hS2 hl2
    exact W.iret hx2 hb2 hr (fun t ht _ => ⟨⟨rfl, by rw [ht]; exact hP2⟩, hS2.F ht⟩) hS2.2.2 hd2)
  rw [lg_entry_eq]
  exact key s.heap [] _ hP va_S.rf (gm_entry _ _ (hlen ad) (hcat ad))
theorem KC.of_z {Ly : gm_L} {y : MethodName} {ws ws' : List Cond} {rm : Room} {cc : ByteArray} {maxL : Nat} {own : String} {as : (Nat → Nat → Nat) → List Value} {M M' : gm_M} {r : Int32} (hy : plainName y.cls = true) (hw : ws = Cond.code y cc maxL (some .boolean) :: ws') (hown : y.cls = own) (hlen : ∀ ad, (as ad).length ≤ maxL) (hcat : ∀ ad, ∀ v ∈ as ad, v.category = 1) (hnr : narrow .boolean (.int r) = .int r)
    (body : ∀ X : gm_X, CX Ly X cc own ws maxL → gm_R X = rm → NX X → (∀ (pc : Nat) (L : List (Option Value)), decode cc pc = .ok (.ireturn, 1) → GO Ly X 0 0 pc L [.int r] M') → GO Ly X 0 0 0 ((as (gm_ad X)).map some ++ List.replicate (maxL - (as (gm_ad X)).length) none) [] M) : KC Ly y ws rm as M (fun _ => some (.int r)) M' := by
  intro l D cy ad sz hI
  refine Met.ofW (cc := cc) (maxL := maxL) (ret := some .boolean) hy hw ?_
  intro p e s m args below meth c s₁ B hml hv
  obtain ⟨rfl, hsz, hP, hK, hN⟩ := hv
  have hx := B.exec
  have hb := B.bytes
  have hr := B.returns
  have hts := atoms_spec (ws := ws) B.pre
  have hown' : s.vm.findClass own = some m.cls := by rw [← hown]; exact findClass_of_methodNamed B.named
  have hlocks := B.notSynchronized
  subst hsz
  have hC : CX Ly (p, l, e, rm, s, m, (as ad).toArray, below, meth, c, (D, cy, ad), AW Ly ad s.heap.size, MQ below (QW Ly D cy ad ((fun _ => some (.int r)) ad) M' s.heap.size) (as ad).toArray s 0 0 (AW Ly ad s.heap.size)) cc own ws maxL := ⟨hx, hb, hml, hown', hts, hK, hI, fun k n h => Or.inl ⟨k, n, h, rfl⟩, fun q h => Or.inr h, hlocks⟩
  have key := body _ hC rfl hN (by
    intro pc L hd2
    have hx2 := hx
    have hb2 := hb
    intro H locs ls hP2 hS2 hl2
    exact W.zret hx2 hb2 hr hnr (fun t ht _ => ⟨⟨rfl, by rw [ht]; exact hP2⟩, hS2.F ht⟩) hS2.2.2 hd2)
  rw [lg_entry_eq]
  exact key s.heap [] _ hP va_S.rf (gm_entry _ _ (hlen ad) (hcat ad))
theorem KC.of_v {Ly : gm_L} {y : MethodName} {ws ws' : List Cond} {rm : Room} {cc : ByteArray} {maxL : Nat} {own : String} {as : (Nat → Nat → Nat) → List Value} {M M' : gm_M}  (hy : plainName y.cls = true) (hw : ws = Cond.code y cc maxL (none) :: ws') (hown : y.cls = own) (hlen : ∀ ad, (as ad).length ≤ maxL) (hcat : ∀ ad, ∀ v ∈ as ad, v.category = 1) 
    (body : ∀ X : gm_X, CX Ly X cc own ws maxL → gm_R X = rm → NX X → (∀ (pc : Nat) (L : List (Option Value)), decode cc pc = .ok (.return_, 1) → GO Ly X 0 0 pc L [] M') → GO Ly X 0 0 0 ((as (gm_ad X)).map some ++ List.replicate (maxL - (as (gm_ad X)).length) none) [] M) : KC Ly y ws rm as M (fun _ => none) M' := by
  intro l D cy ad sz hI
  refine Met.ofW (cc := cc) (maxL := maxL) (ret := none) hy hw ?_
  intro p e s m args below meth c s₁ B hml hv
  obtain ⟨rfl, hsz, hP, hK, hN⟩ := hv
  have hx := B.exec
  have hb := B.bytes
  have hr := B.returns
  have hts := atoms_spec (ws := ws) B.pre
  have hown' : s.vm.findClass own = some m.cls := by rw [← hown]; exact findClass_of_methodNamed B.named
  have hlocks := B.notSynchronized
  subst hsz
  have hC : CX Ly (p, l, e, rm, s, m, (as ad).toArray, below, meth, c, (D, cy, ad), AW Ly ad s.heap.size, MQ below (QW Ly D cy ad ((fun _ => none) ad) M' s.heap.size) (as ad).toArray s 0 0 (AW Ly ad s.heap.size)) cc own ws maxL := ⟨hx, hb, hml, hown', hts, hK, hI, fun k n h => Or.inl ⟨k, n, h, rfl⟩, fun q h => Or.inr h, hlocks⟩
  have key := body _ hC rfl hN (by
    intro pc L hd2
    have hx2 := hx
    have hb2 := hb
    intro H locs ls hP2 hS2 hl2
    exact W.vret hx2 hb2 hr (fun t ht _ => ⟨⟨rfl, by rw [ht]; exact hP2⟩, hS2.F ht⟩) hS2.2.2 hd2)
  rw [lg_entry_eq]
  exact key s.heap [] _ hP va_S.rf (gm_entry _ _ (hlen ad) (hcat ad))
theorem KC.of_a {Ly : gm_L} {y : MethodName} {ws ws' : List Cond} {rm : Room} {cc : ByteArray} {maxL : Nat} {own : String} {as : (Nat → Nat → Nat) → List Value} {M M' : gm_M} {rc : String} {rv : (Nat → Nat → Nat) → Value} (hy : plainName y.cls = true) (hw : ws = Cond.code y cc maxL (some (.object rc)) :: ws') (hown : y.cls = own) (hlen : ∀ ad, (as ad).length ≤ maxL) (hcat : ∀ ad, ∀ v ∈ as ad, v.category = 1) (hrv : ∀ ad, rv ad = .null ∨ ∃ a, rv ad = .ref a)
    (body : ∀ X : gm_X, CX Ly X cc own ws maxL → gm_R X = rm → NX X → (∀ (pc : Nat) (L : List (Option Value)), decode cc pc = .ok (.areturn, 1) → GO Ly X 0 0 pc L [rv (gm_ad X)] M') → GO Ly X 0 0 0 ((as (gm_ad X)).map some ++ List.replicate (maxL - (as (gm_ad X)).length) none) [] M) : KC Ly y ws rm as M (fun ad => some (rv ad)) M' := by
  intro l D cy ad sz hI
  refine Met.ofW (cc := cc) (maxL := maxL) (ret := some (.object rc)) hy hw ?_
  intro p e s m args below meth c s₁ B hml hv
  obtain ⟨rfl, hsz, hP, hK, hN⟩ := hv
  have hx := B.exec
  have hb := B.bytes
  have hr := B.returns
  have hts := atoms_spec (ws := ws) B.pre
  have hown' : s.vm.findClass own = some m.cls := by rw [← hown]; exact findClass_of_methodNamed B.named
  have hlocks := B.notSynchronized
  subst hsz
  have hC : CX Ly (p, l, e, rm, s, m, (as ad).toArray, below, meth, c, (D, cy, ad), AW Ly ad s.heap.size, MQ below (QW Ly D cy ad ((fun ad => some (rv ad)) ad) M' s.heap.size) (as ad).toArray s 0 0 (AW Ly ad s.heap.size)) cc own ws maxL := ⟨hx, hb, hml, hown', hts, hK, hI, fun k n h => Or.inl ⟨k, n, h, rfl⟩, fun q h => Or.inr h, hlocks⟩
  have key := body _ hC rfl hN (by
    intro pc L hd2
    have hx2 := hx
    have hb2 := hb
    intro H locs ls hP2 hS2 hl2
    exact W.aret hx2 hb2 hr (Or.inl ⟨rc, rfl⟩) (hrv ad) (fun t ht _ => ⟨⟨rfl, by rw [ht]; exact hP2⟩, hS2.F ht⟩) hS2.2.2 hd2)
  rw [lg_entry_eq]
  exact key s.heap [] _ hP va_S.rf (gm_entry _ _ (hlen ad) (hcat ad))
section GC
variable {Ly : gm_L} {X : gm_X} {cc : ByteArray} {own : String} {Ts : List Cond} {nL ce sl pc : Nat} {L : List (Option Value)} {rest : List Value} {M M' : gm_M}
theorem AW.in {Ly : gm_L} {ad : Nat → Nat → Nat} {A : Nat → Prop} {H0 H : Heap} {locs : List Loc} (hAd : ∀ k n : Nat, n < (Ly k).1 → A (ad k n)) (hA : ∀ q : Nat, H0.size ≤ q → A q) (hS : va_S A H0 H locs) : ∀ q : Nat, AW Ly ad H.size q → A q := by
  intro q h
  rcases h with ⟨k, n, h1, rfl⟩ | h
  · exact hAd k n h1
  · exact hA q (Nat.le_trans hS.1 h)
theorem gm_after {p : Program} {l : Launch} {e : Env} {R : Room} {s : State} {m : MethodId} {args : Array Value} {below : List Frame} {meth : Method} {c : Code} {D : va_G} {cy : Nat → ClassId} {ad : Nat → Nat → Nat} {A : Nat → Prop} {Q : State → Prop} {v : Option Value} {a : Array Value} {H : Heap} {locs : List Loc} {ls : Array Slot} {st : List Value}
    (hAd : ∀ k n : Nat, n < (Ly k).1 → A (ad k n)) (hA : ∀ q : Nat, s.heap.size ≤ q → A q) (hS : va_S A s.heap H locs) (hl : gm_ls ls L)
    (hr : va_Run p l e R s m args below meth c H locs ce sl 0 0 (F0 m pc ls st) rest (QW Ly D cy ad v M' H.size a) (AW Ly ad H.size))
    (kk : GO Ly (p, l, e, R, s, m, args, below, meth, c, (D, cy, ad), A, Q) ce sl (pc + 3) L (v.toList ++ rest) M') : W p l e R s m args below meth c H locs ce sl Q (F0 m pc ls st) := by
  intro T hT XX
  obtain ⟨v2, st₀, t, T', L', h0, X', hL', e1, e2, ⟨⟨hv, hPB⟩, hz, hk⟩, go⟩ := hr T hT XX
  cases hv
  rw [h0] at hz hk
  have hAi := AW.in (Ly := Ly) (ad := ad) hAd hA hS
  obtain ⟨t2, a1, b1⟩ := kk T'.heap (locs ++ L') ls (by rw [e1]; exact hPB)
    ⟨Nat.le_trans hS.1 (by rw [e1]; exact hz), fun q h1 h2 => by rw [e1, hk q (Nat.lt_of_lt_of_le h1 hS.1) (fun z => h2 (hAi q z))]; exact hS.2.1 q h1 h2, fun q hq => by
      rcases List.mem_append.mp hq with h | h
      · exact hS.2.2 q h
      · exact hAi _ (hL' q h)⟩ hl T' rfl X'
  exact ⟨t2, go t2 a1, b1⟩
theorem gm_pre {s : State} {D : va_G} {cy : Nat → ClassId} {ad : Nat → Nat → Nat} {H : Heap} {as : List Value} (hP : gm_P D Ly cy ad M H) (hK : va_K D vwCl (gm_ty cy) s) (hN : NW s) : ∀ U : State, U.heap = H → s.WarmedH U.vm → PW Ly D cy ad as M H.size as.toArray U := fun U hU hW => ⟨rfl, by rw [hU], by rw [hU]; exact hP, va_K.moved hW.alike hK, NW.warm hW hN⟩
/-- a call of an instance method of ours, by its receiver -/
theorem go_callV (hC : CX Ly X cc own Ts nL) (hX : NX X) {y : MethodName} {ws ws' : List Cond} {rm : Room} {as : (Nat → Nat → Nat) → List Value} {v : (Nat → Nat → Nat) → Option Value} {bytes : ByteArray} {maxL n index k0 n0 ci N : Nat} {ret : Option FieldType} {C : String} {T : u_T} {sr : Nat → Option Nat} {As st : List Value}
    (hM : KC Ly y ws rm as M v M') (hG : GoodIn Ts (wsV own index C y ws)) (hw : ws = Cond.code y bytes maxL ret :: ws') (hd : y.cls = C ∧ y.cls ≠ "java/lang/invoke/MethodHandle" ∧ y.cls ≠ "java/lang/invoke/VarHandle" ∧ (parseMethodDescriptor y.desc).map (fun d => d.parameters.length) = some n) (hcs : rm.cells = 0 ∧ rm.slots = 0) (hR : rm.frames + 1 ≤ (gm_R X).frames ∧ 8 + (maxL + 11) + rm.locals ≤ (gm_R X).locals) (hf : ce ≤ (gm_R X).cells ∧ sl ≤ (gm_R X).slots) (hLn : L.length = nL)
    (hk : (Ly k0).2 = .inl (ci, N, sr)) (hc : vwCl[ci]? = some (C, T, N)) (hn0 : n0 < (Ly k0).1) (has : as (gm_ad X) = .ref (gm_ad X k0 n0) :: As) (hn : As.length = n) (hst : st = As.reverse ++ .ref (gm_ad X k0 n0) :: rest) (hcat : (rest.map fun v => v.category).sum ≤ 8) (hdg : decode cc pc = .ok (.invokevirtual index, 3))
    (kk : GO Ly X ce sl (pc + 3) L ((v (gm_ad X)).toList ++ rest) M') : GO Ly X ce sl pc L st M := by
  obtain ⟨p, l, e, R, s, m, args, below, meth, c, ⟨D, cy, ad⟩, A, Q⟩ := X
  obtain ⟨hx, hb, hml, hown, hts, hK, hI, hAd, hA, hlk⟩ := hC
  intro H locs ls hP hS hl
  have h1 := hP k0 n0 hn0
  rw [gm_at_o hk] at h1
  have has' : as ad = .ref (ad k0 n0) :: As := has
  have hM' := hM l D cy ad H.size hI
  rw [has'] at hM'
  exact gm_after hAd hA hS hl (va_runV (As := As) (rest := rest) ⟨hx, hb, hml, hown, hts⟩ hM' (cwV n hts hG hw hcs.1 hcs.2 hd hR) ⟨PW.blind, va_recv hK (gm_one h1) (ci := ci) (q0 := 0) hc rfl, gm_pre hP hK hX⟩ rfl hn (hl.1.trans hLn) hst (lv_room hcat) hdg hf) kk
/-- a call of a static method of the same class -/
theorem go_callS (hC : CX Ly X cc own Ts nL) (hX : NX X) {y : MethodName} {ws ws' : List Cond} {rm : Room} {as : (Nat → Nat → Nat) → List Value} {v : (Nat → Nat → Nat) → Option Value} {bytes : ByteArray} {maxL n index : Nat} {ret : Option FieldType} {As st : List Value}
    (hM : KC Ly y ws rm as M v M') (hG : GoodIn Ts (va_wsS own index y ws)) (hw : ws = Cond.code y bytes maxL ret :: ws') (hd : y.cls ≠ "java/lang/invoke/MethodHandle" ∧ y.cls ≠ "java/lang/invoke/VarHandle" ∧ (parseMethodDescriptor y.desc).map (fun d => d.parameters.length) = some n) (hcs : rm.cells = 0 ∧ rm.slots = 0) (hR : rm.frames + 1 ≤ (gm_R X).frames ∧ 8 + (maxL + 11) + rm.locals ≤ (gm_R X).locals) (hf : ce ≤ (gm_R X).cells ∧ sl ≤ (gm_R X).slots) (hLn : L.length = nL)
    (has : as (gm_ad X) = As) (hn : As.length = n) (hst : st = As.reverse ++ rest) (hcat : (rest.map fun v => v.category).sum ≤ 8) (hdg : decode cc pc = .ok (.invokestatic index, 3))
    (kk : GO Ly X ce sl (pc + 3) L ((v (gm_ad X)).toList ++ rest) M') : GO Ly X ce sl pc L st M := by
  obtain ⟨p, l, e, R, s, m, args, below, meth, c, ⟨D, cy, ad⟩, A, Q⟩ := X
  obtain ⟨hx, hb, hml, hown, hts, hK, hI, hAd, hA, hlk⟩ := hC
  intro H locs ls hP hS hl
  have has' : as ad = As := has
  have hM' := hM l D cy ad H.size hI
  rw [has'] at hM'
  exact gm_after hAd hA hS hl (va_runS (As := As) (rest := rest) ⟨hx, hb, hml, hown, hts⟩ hM' (va_cwS n hts hG hw hcs.1 hcs.2 hd hR) ⟨PW.blind, gm_pre hP hK hX⟩ rfl hn (hl.1.trans hLn) hst (lv_room hcat) hdg hf) kk
/-- the call of SharedFibre.mix over the nest -/
theorem go_callN (hC : CX Ly X cc RX1 Ts nL) (hX : NX X) {ws ws' : List Cond} {rm : Room} {as : (Nat → Nat → Nat) → List Value} {v : (Nat → Nat → Nat) → Option Value} {bytes : ByteArray} {maxL n : Nat} {ret : Option FieldType} {As st : List Value}
    (hM : KC Ly yX2_mix ws rm as M v M') (hG : GoodIn Ts ws) (hst9 : Cond.static yX2_mix ∈ Ts) (hin9 : Cond.initialized yX2_mix.cls ∈ Ts) (hw : ws = Cond.code yX2_mix bytes maxL ret :: ws') (hd : yX2_mix.cls ≠ "java/lang/invoke/MethodHandle" ∧ yX2_mix.cls ≠ "java/lang/invoke/VarHandle" ∧ (parseMethodDescriptor yX2_mix.desc).map (fun d => d.parameters.length) = some n) (hcs : rm.cells = 0 ∧ rm.slots = 0) (hR : rm.frames + 1 ≤ (gm_R X).frames ∧ 8 + (maxL + 11) + rm.locals ≤ (gm_R X).locals) (hf : ce ≤ (gm_R X).cells ∧ sl ≤ (gm_R X).slots) (hLn : L.length = nL)
    (has : as (gm_ad X) = As) (hn : As.length = n) (hst : st = As.reverse ++ rest) (hcat : (rest.map fun v => v.category).sum ≤ 8) (hdg : decode cc pc = .ok (.invokestatic 65, 3))
    (kk : GO Ly X ce sl (pc + 3) L ((v (gm_ad X)).toList ++ rest) M') : GO Ly X ce sl pc L st M := by
  obtain ⟨p, l, e, R, s, m, args, below, meth, c, ⟨D, cy, ad⟩, A, Q⟩ := X
  obtain ⟨hx, hb, hml, hown, hts, hK, hI, hAd, hA, hlk⟩ := hC
  intro H locs ls hP hS hl
  have has' : as ad = As := has
  have hM' := hM l D cy ad H.size hI
  rw [has'] at hM'
  exact gm_after hAd hA hS hl (va_runSN (As := As) (rest := rest) ⟨hx, hb, hml, hown, hts⟩ hM' ⟨va_cnB n hts hG hw hcs.1 hcs.2 hX.1 (hts _ hin9) hd hR, hts _ hst9, trivial⟩ ⟨PW.blind, gm_pre hP hK hX⟩ rfl hn (hl.1.trans hLn) hst (lv_room hcat) hdg hf) kk
/-- Math.max, min, abs -/
theorem go_max (hC : CX Ly X cc own Ts nL) {x y : Int32} {index : Nat} (h1 : Cond.methodLink own index Lib.Math.max.name ∈ Ts) (h2 : Cond.static Lib.Math.max.name ∈ Ts) (h3 : Cond.initialized "java/lang/Math" ∈ Ts) (h4 : Cond.code Lib.Math.max.name Lib.Math.max.code 2 (some .int) ∈ Ts) (hR : 1 ≤ (gm_R X).frames ∧ (rest.map fun v => v.category).sum + 13 ≤ (gm_R X).locals) (hf : ce ≤ (gm_R X).cells ∧ sl ≤ (gm_R X).slots) (hLn : L.length = nL) (hdg : decode cc pc = .ok (.invokestatic index, 3))
    (kk : GO Ly X ce sl (pc + 3) L (.int (if x < y then y else x) :: rest) M) : GO Ly X ce sl pc L (.int y :: .int x :: rest) M := by
  obtain ⟨p, l, e, R, s, m, args, below, meth, c, ⟨D, cy, ad⟩, A, Q⟩ := X
  obtain ⟨hx, hb, hml, hown, hts, hK, hI, hAd, hA, hlk⟩ := hC
  intro H locs ls hP hS hl
  exact va_mmax hx hb (by rw [hml, hl.1, hLn]) hown (hts _ h1) (hts _ h2) (hts _ h3) (hts _ h4) hR.1 hR.2 hf.1 hf.2 hdg (kk H locs ls hP hS hl)
theorem go_min (hC : CX Ly X cc own Ts nL) {x y : Int32} {index : Nat} (h1 : Cond.methodLink own index Lib.Math.min.name ∈ Ts) (h2 : Cond.static Lib.Math.min.name ∈ Ts) (h3 : Cond.initialized "java/lang/Math" ∈ Ts) (h4 : Cond.code Lib.Math.min.name Lib.Math.min.code 2 (some .int) ∈ Ts) (hR : 1 ≤ (gm_R X).frames ∧ (rest.map fun v => v.category).sum + 13 ≤ (gm_R X).locals) (hf : ce ≤ (gm_R X).cells ∧ sl ≤ (gm_R X).slots) (hLn : L.length = nL) (hdg : decode cc pc = .ok (.invokestatic index, 3))
    (kk : GO Ly X ce sl (pc + 3) L (.int (if y < x then y else x) :: rest) M) : GO Ly X ce sl pc L (.int y :: .int x :: rest) M := by
  obtain ⟨p, l, e, R, s, m, args, below, meth, c, ⟨D, cy, ad⟩, A, Q⟩ := X
  obtain ⟨hx, hb, hml, hown, hts, hK, hI, hAd, hA, hlk⟩ := hC
  intro H locs ls hP hS hl
  exact va_mmin hx hb (by rw [hml, hl.1, hLn]) hown (hts _ h1) (hts _ h2) (hts _ h3) (hts _ h4) hR.1 hR.2 hf.1 hf.2 hdg (kk H locs ls hP hS hl)
theorem go_abs (hC : CX Ly X cc own Ts nL) {x : Int32} {index : Nat} (h1 : Cond.methodLink own index Lib.Math.abs.name ∈ Ts) (h2 : Cond.static Lib.Math.abs.name ∈ Ts) (h3 : Cond.initialized "java/lang/Math" ∈ Ts) (h4 : Cond.code Lib.Math.abs.name Lib.Math.abs.code 1 (some .int) ∈ Ts) (hR : 1 ≤ (gm_R X).frames ∧ (rest.map fun v => v.category).sum + 13 ≤ (gm_R X).locals) (hf : ce ≤ (gm_R X).cells ∧ sl ≤ (gm_R X).slots) (hLn : L.length = nL) (hdg : decode cc pc = .ok (.invokestatic index, 3))
    (kk : GO Ly X ce sl (pc + 3) L (.int (if 0 ≤ x then x else 0 - x) :: rest) M) : GO Ly X ce sl pc L (.int x :: rest) M := by
  obtain ⟨p, l, e, R, s, m, args, below, meth, c, ⟨D, cy, ad⟩, A, Q⟩ := X
  obtain ⟨hx, hb, hml, hown, hts, hK, hI, hAd, hA, hlk⟩ := hC
  intro H locs ls hP hS hl
  exact va_mabs hx hb (by rw [hml, hl.1, hLn]) hown (hts _ h1) (hts _ h2) (hts _ h3) (hts _ h4) hR.1 hR.2 hf.1 hf.2 hdg (kk H locs ls hP hS hl)
end GC
/-! rows that lay a goal out: locals set, answers on the stack, the locals at an entry -/
theorem gm_s0 {a b : Option Value} {l : List (Option Value)} : (a :: l).set 0 b = b :: l := rfl
theorem gm_s1 {a b : Option Value} {l : List (Option Value)} {n : Nat} : (a :: l).set (n + 1) b = a :: l.set n b := rfl
theorem gm_fin {n : Nat} {h : n < 4} : (⟨n, h⟩ : Fin 4).val = n := rfl
theorem gm_r0 {v : Value} {r : List Value} : (some v).toList ++ r = v :: r := rfl
theorem gm_r1 {r : List Value} : (none : Option Value).toList ++ r = r := rfl
theorem gm_e0 {v : Value} {l : List Value} {r : List (Option Value)} : (v :: l).map some ++ r = some v :: (l.map some ++ r) := rfl
theorem gm_e1 {r : List (Option Value)} : ([] : List Value).map some ++ r = r := rfl
theorem gm_e2 {n : Nat} {v : Option Value} : List.replicate (n + 1) v = v :: List.replicate n v := rfl
theorem gm_in {x : Int32} {n N : Nat} (h : x = nI n) (hn : n < N) (hN : N < 2 ^ 31) : vp_in x N := h ▸ vp_in_nI hn hN
theorem gm_cl {x : Int32} {n : Nat} (h : x = nI n) (hn : n < 2 ^ 31) : x.toNatClampNeg = n := h ▸ nI_clamp hn
theorem gm_cl5 {x : Int32} {n a : Nat} (h : x = nI n) (hn : n < 2 ^ 31) : a + x.toNatClampNeg = a + n := by rw [gm_cl h hn]
theorem gm_cu {x : Int32} {n : Nat} (h : x = nI n) (hn : n < 2 ^ 31) : 5 * 0 + x.toNatClampNeg = n := by rw [gm_cl h hn]; omega
/-- a truth as an int -/
noncomputable def tF (P : Prop) : Int32 := @ite _ P (Classical.propDecidable P) 1 0
theorem tF_t {P : Prop} (h : P) : tF P = 1 := if_pos h
theorem tF_f {P : Prop} (h : ¬ P) : tF P = 0 := if_neg h
theorem tF_n (P : Prop) : narrow .boolean (.int (tF P)) = .int (tF P) := by
  by_cases h : P
  · rw [tF_t h]; decide
  · rw [tF_f h]; decide
/-- fewer known locals -/
def gm_le (L' L : List (Option Value)) : Prop := L'.length = L.length ∧ ∀ (i : Nat) (v : Value), L'[i]? = some (some v) → L[i]? = some (some v)
theorem gm_le_nil : gm_le [] [] := ⟨rfl, fun _ _ h => h⟩
theorem gm_le_c {a : Option Value} {l r : List (Option Value)} (h : gm_le l r) : gm_le (a :: l) (a :: r) := ⟨by simp [h.1], fun i v hi => by
  cases i with
  | zero => exact hi
  | succ i => exact h.2 i v hi⟩
theorem gm_le_n {b : Option Value} {l r : List (Option Value)} (h : gm_le l r) : gm_le (none :: l) (b :: r) := ⟨by simp [h.1], fun i v hi => by
  cases i with
  | zero => cases hi
  | succ i => exact h.2 i v hi⟩
theorem go_sub {Ly : gm_L} {X : gm_X} {ce sl pc : Nat} {L L' : List (Option Value)} {st : List Value} {M : gm_M} (k : GO Ly X ce sl pc L' st M) (h : gm_le L' L) : GO Ly X ce sl pc L st M := by
  obtain ⟨p, l, e, R, s, m, args, below, meth, c, ⟨D, cy, ad⟩, A, Q⟩ := X
  intro H locs ls hP hS hl
  exact k H locs ls hP hS ⟨hl.1.trans h.1.symm, hl.2.1, fun i v hi => hl.2.2 i v (h.2 i v hi)⟩
theorem gm_us {M : gm_M} {k f n : Nat} {x : Int32} : gm_up M k f n x k f n = x := if_pos ⟨rfl, rfl, rfl⟩
theorem gm_un1 {M : gm_M} {k f n k' f' n' : Nat} {x : Int32} (h : k' ≠ k) : gm_up M k f n x k' f' n' = M k' f' n' := if_neg (fun q => h q.1)
theorem gm_un2 {M : gm_M} {k f n k' f' n' : Nat} {x : Int32} (h : f' ≠ f) : gm_up M k f n x k' f' n' = M k' f' n' := if_neg (fun q => h q.2.1)
theorem gm_un3 {M : gm_M} {k f n k' f' n' : Nat} {x : Int32} (h : n' ≠ n) : gm_up M k f n x k' f' n' = M k' f' n' := if_neg (fun q => h q.2.2)
/-- step upon step: 0, 1, .. -/
def iter (f : Nat → gm_M → gm_M) : Nat → gm_M → gm_M
  | 0, M => M
  | k + 1, M => f k (iter f k M)
theorem iter_s (f : Nat → gm_M → gm_M) (k : Nat) (M : gm_M) : iter f (k + 1) M = f k (iter f k M) := rfl
theorem iter_inv {f : Nat → gm_M → gm_M} {P : gm_M → Prop} (h : ∀ k M, P M → P (f k M)) {M : gm_M} (h0 : P M) : ∀ k, P (iter f k M)
  | 0 => h0
  | k + 1 => h k _ (iter_inv h h0 k)
theorem loopN (n : Nat) (S : Nat → Prop) (hx : S n) (hs : ∀ j, j < n → S (j + 1) → S j) : S 0 := by
  have key : ∀ d j, j + d = n → S j := by
    intro d
    induction d with
    | zero => intro j hj; rw [Nat.add_zero] at hj; rw [hj]; exact hx
    | succ d ih => intro j hj; exact hs j (by omega) (ih (j + 1) (by omega))
  exact key n 0 (by omega)
/-- a number that comes out of several roads -/
theorem go_joinI {Ly : gm_L} {X : gm_X} {ce sl pc jpc : Nat} {L : List (Option Value)} {rest : List Value} {M : gm_M} (v : Int32) (hj : GO Ly X ce sl jpc L (.int v :: rest) M) (k : GO Ly X ce sl jpc L (.int v :: rest) M → GO Ly X ce sl pc L rest M) : GO Ly X ce sl pc L rest M := k hj
/-- a truth that comes out of several roads -/
theorem go_joinB {Ly : gm_L} {X : gm_X} {ce sl pc jpc : Nat} {L : List (Option Value)} {rest : List Value} {M : gm_M} (C : Prop) [Decidable C] (hj : ∀ b : Int32, (b = if C then 1 else 0) → GO Ly X ce sl jpc L (.int b :: rest) M) (k : (∀ b : Int32, (b = if C then 1 else 0) → GO Ly X ce sl jpc L (.int b :: rest) M) → GO Ly X ce sl pc L rest M) : GO Ly X ce sl pc L rest M := k hj
end
section
theorem dX0_init_0 : decode cX0_init 0 = .ok (.aload_n 0, 1) := by decide +kernel
theorem dX0_init_1 : decode cX0_init 1 = .ok (.invokespecial 3, 3) := by decide +kernel
theorem dX0_init_4 : decode cX0_init 4 = .ok (.aload_n 0, 1) := by decide +kernel
theorem dX0_init_5 : decode cX0_init 5 = .ok (.bipush 8, 2) := by decide +kernel
theorem dX0_init_7 : decode cX0_init 7 = .ok (.newarray .int, 2) := by decide +kernel
theorem dX0_init_9 : decode cX0_init 9 = .ok (.putfield 9, 3) := by decide +kernel
theorem dX0_init_12 : decode cX0_init 12 = .ok (.aload_n 0, 1) := by decide +kernel
theorem dX0_init_13 : decode cX0_init 13 = .ok (.bipush 8, 2) := by decide +kernel
theorem dX0_init_15 : decode cX0_init 15 = .ok (.newarray .int, 2) := by decide +kernel
theorem dX0_init_17 : decode cX0_init 17 = .ok (.putfield 15, 3) := by decide +kernel
theorem dX0_init_20 : decode cX0_init 20 = .ok (.aload_n 0, 1) := by decide +kernel
theorem dX0_init_21 : decode cX0_init 21 = .ok (.iconst 1, 1) := by decide +kernel
theorem dX0_init_22 : decode cX0_init 22 = .ok (.putfield 18, 3) := by decide +kernel
theorem dX0_init_25 : decode cX0_init 25 = .ok (.return_, 1) := by decide +kernel
theorem dX0_clear_0 : decode cX0_clear 0 = .ok (.aload_n 0, 1) := by decide +kernel
theorem dX0_clear_1 : decode cX0_clear 1 = .ok (.iconst 0, 1) := by decide +kernel
theorem dX0_clear_2 : decode cX0_clear 2 = .ok (.putfield 22, 3) := by decide +kernel
theorem dX0_clear_5 : decode cX0_clear 5 = .ok (.aload_n 0, 1) := by decide +kernel
theorem dX0_clear_6 : decode cX0_clear 6 = .ok (.iconst 0, 1) := by decide +kernel
theorem dX0_clear_7 : decode cX0_clear 7 = .ok (.putfield 25, 3) := by decide +kernel
theorem dX0_clear_10 : decode cX0_clear 10 = .ok (.aload_n 0, 1) := by decide +kernel
theorem dX0_clear_11 : decode cX0_clear 11 = .ok (.iconst 0, 1) := by decide +kernel
theorem dX0_clear_12 : decode cX0_clear 12 = .ok (.putfield 29, 3) := by decide +kernel
theorem dX0_clear_15 : decode cX0_clear 15 = .ok (.aload_n 0, 1) := by decide +kernel
theorem dX0_clear_16 : decode cX0_clear 16 = .ok (.iconst 0, 1) := by decide +kernel
theorem dX0_clear_17 : decode cX0_clear 17 = .ok (.putfield 32, 3) := by decide +kernel
theorem dX0_clear_20 : decode cX0_clear 20 = .ok (.aload_n 0, 1) := by decide +kernel
theorem dX0_clear_21 : decode cX0_clear 21 = .ok (.iconst 0, 1) := by decide +kernel
theorem dX0_clear_22 : decode cX0_clear 22 = .ok (.putfield 35, 3) := by decide +kernel
theorem dX0_clear_25 : decode cX0_clear 25 = .ok (.aload_n 0, 1) := by decide +kernel
theorem dX0_clear_26 : decode cX0_clear 26 = .ok (.iconst 1, 1) := by decide +kernel
theorem dX0_clear_27 : decode cX0_clear 27 = .ok (.putfield 18, 3) := by decide +kernel
theorem dX0_clear_30 : decode cX0_clear 30 = .ok (.aload_n 0, 1) := by decide +kernel
theorem dX0_clear_31 : decode cX0_clear 31 = .ok (.iconst 0, 1) := by decide +kernel
theorem dX0_clear_32 : decode cX0_clear 32 = .ok (.putfield 38, 3) := by decide +kernel
theorem dX0_clear_35 : decode cX0_clear 35 = .ok (.aload_n 0, 1) := by decide +kernel
theorem dX0_clear_36 : decode cX0_clear 36 = .ok (.iconst 0, 1) := by decide +kernel
theorem dX0_clear_37 : decode cX0_clear 37 = .ok (.putfield 41, 3) := by decide +kernel
theorem dX0_clear_40 : decode cX0_clear 40 = .ok (.aload_n 0, 1) := by decide +kernel
theorem dX0_clear_41 : decode cX0_clear 41 = .ok (.iconst 0, 1) := by decide +kernel
theorem dX0_clear_42 : decode cX0_clear 42 = .ok (.putfield 44, 3) := by decide +kernel
theorem dX0_clear_45 : decode cX0_clear 45 = .ok (.return_, 1) := by decide +kernel
theorem dX0_load_0 : decode cX0_load 0 = .ok (.iconst 0, 1) := by decide +kernel
theorem dX0_load_1 : decode cX0_load 1 = .ok (.istore_n 1, 1) := by decide +kernel
theorem dX0_load_2 : decode cX0_load 2 = .ok (.iconst 0, 1) := by decide +kernel
theorem dX0_load_3 : decode cX0_load 3 = .ok (.istore_n 2, 1) := by decide +kernel
theorem dX0_load_4 : decode cX0_load 4 = .ok (.iload_n 2, 1) := by decide +kernel
theorem dX0_load_5 : decode cX0_load 5 = .ok (.aload_n 0, 1) := by decide +kernel
theorem dX0_load_6 : decode cX0_load 6 = .ok (.getfield 22, 3) := by decide +kernel
theorem dX0_load_9 : decode cX0_load 9 = .ok (.if_icmp .ge 18, 3) := by decide +kernel
theorem dX0_load_12 : decode cX0_load 12 = .ok (.iload_n 1, 1) := by decide +kernel
theorem dX0_load_13 : decode cX0_load 13 = .ok (.aload_n 0, 1) := by decide +kernel
theorem dX0_load_14 : decode cX0_load 14 = .ok (.getfield 15, 3) := by decide +kernel
theorem dX0_load_17 : decode cX0_load 17 = .ok (.iload_n 2, 1) := by decide +kernel
theorem dX0_load_18 : decode cX0_load 18 = .ok (.iaload, 1) := by decide +kernel
theorem dX0_load_19 : decode cX0_load 19 = .ok (.iadd, 1) := by decide +kernel
theorem dX0_load_20 : decode cX0_load 20 = .ok (.istore_n 1, 1) := by decide +kernel
theorem dX0_load_21 : decode cX0_load 21 = .ok (.iinc 2 1, 3) := by decide +kernel
theorem dX0_load_24 : decode cX0_load 24 = .ok (.goto (-20), 3) := by decide +kernel
theorem dX0_load_27 : decode cX0_load 27 = .ok (.iload_n 1, 1) := by decide +kernel
theorem dX0_load_28 : decode cX0_load 28 = .ok (.ireturn, 1) := by decide +kernel
theorem dX0_append_0 : decode cX0_append 0 = .ok (.aload_n 0, 1) := by decide +kernel
theorem dX0_append_1 : decode cX0_append 1 = .ok (.getfield 9, 3) := by decide +kernel
theorem dX0_append_4 : decode cX0_append 4 = .ok (.aload_n 0, 1) := by decide +kernel
theorem dX0_append_5 : decode cX0_append 5 = .ok (.getfield 22, 3) := by decide +kernel
theorem dX0_append_8 : decode cX0_append 8 = .ok (.iload_n 1, 1) := by decide +kernel
theorem dX0_append_9 : decode cX0_append 9 = .ok (.iastore, 1) := by decide +kernel
theorem dX0_append_10 : decode cX0_append 10 = .ok (.aload_n 0, 1) := by decide +kernel
theorem dX0_append_11 : decode cX0_append 11 = .ok (.getfield 15, 3) := by decide +kernel
theorem dX0_append_14 : decode cX0_append 14 = .ok (.aload_n 0, 1) := by decide +kernel
theorem dX0_append_15 : decode cX0_append 15 = .ok (.getfield 22, 3) := by decide +kernel
theorem dX0_append_18 : decode cX0_append 18 = .ok (.iload_n 2, 1) := by decide +kernel
theorem dX0_append_19 : decode cX0_append 19 = .ok (.iastore, 1) := by decide +kernel
theorem dX0_append_20 : decode cX0_append 20 = .ok (.aload_n 0, 1) := by decide +kernel
theorem dX0_append_21 : decode cX0_append 21 = .ok (.dup, 1) := by decide +kernel
theorem dX0_append_22 : decode cX0_append 22 = .ok (.getfield 22, 3) := by decide +kernel
theorem dX0_append_25 : decode cX0_append 25 = .ok (.iconst 1, 1) := by decide +kernel
theorem dX0_append_26 : decode cX0_append 26 = .ok (.iadd, 1) := by decide +kernel
theorem dX0_append_27 : decode cX0_append 27 = .ok (.putfield 22, 3) := by decide +kernel
theorem dX0_append_30 : decode cX0_append 30 = .ok (.return_, 1) := by decide +kernel
theorem dX0_sendBlock_0 : decode cX0_sendBlock 0 = .ok (.aload_n 0, 1) := by decide +kernel
theorem dX0_sendBlock_1 : decode cX0_sendBlock 1 = .ok (.getfield 15, 3) := by decide +kernel
theorem dX0_sendBlock_4 : decode cX0_sendBlock 4 = .ok (.iconst 0, 1) := by decide +kernel
theorem dX0_sendBlock_5 : decode cX0_sendBlock 5 = .ok (.dup2, 1) := by decide +kernel
theorem dX0_sendBlock_6 : decode cX0_sendBlock 6 = .ok (.iaload, 1) := by decide +kernel
theorem dX0_sendBlock_7 : decode cX0_sendBlock 7 = .ok (.iconst 1, 1) := by decide +kernel
theorem dX0_sendBlock_8 : decode cX0_sendBlock 8 = .ok (.isub, 1) := by decide +kernel
theorem dX0_sendBlock_9 : decode cX0_sendBlock 9 = .ok (.iastore, 1) := by decide +kernel
theorem dX0_sendBlock_10 : decode cX0_sendBlock 10 = .ok (.iload_n 1, 1) := by decide +kernel
theorem dX0_sendBlock_11 : decode cX0_sendBlock 11 = .ok (.ifCond .eq 8, 3) := by decide +kernel
theorem dX0_sendBlock_14 : decode cX0_sendBlock 14 = .ok (.aload_n 0, 1) := by decide +kernel
theorem dX0_sendBlock_15 : decode cX0_sendBlock 15 = .ok (.iconst 1, 1) := by decide +kernel
theorem dX0_sendBlock_16 : decode cX0_sendBlock 16 = .ok (.putfield 25, 3) := by decide +kernel
theorem dX0_sendBlock_19 : decode cX0_sendBlock 19 = .ok (.return_, 1) := by decide +kernel
theorem dX0_dropFirst_0 : decode cX0_dropFirst 0 = .ok (.aload_n 0, 1) := by decide +kernel
theorem dX0_dropFirst_1 : decode cX0_dropFirst 1 = .ok (.dup, 1) := by decide +kernel
theorem dX0_dropFirst_2 : decode cX0_dropFirst 2 = .ok (.getfield 22, 3) := by decide +kernel
theorem dX0_dropFirst_5 : decode cX0_dropFirst 5 = .ok (.iconst 1, 1) := by decide +kernel
theorem dX0_dropFirst_6 : decode cX0_dropFirst 6 = .ok (.isub, 1) := by decide +kernel
theorem dX0_dropFirst_7 : decode cX0_dropFirst 7 = .ok (.putfield 22, 3) := by decide +kernel
theorem dX0_dropFirst_10 : decode cX0_dropFirst 10 = .ok (.iconst 0, 1) := by decide +kernel
theorem dX0_dropFirst_11 : decode cX0_dropFirst 11 = .ok (.istore_n 1, 1) := by decide +kernel
theorem dX0_dropFirst_12 : decode cX0_dropFirst 12 = .ok (.iload_n 1, 1) := by decide +kernel
theorem dX0_dropFirst_13 : decode cX0_dropFirst 13 = .ok (.aload_n 0, 1) := by decide +kernel
theorem dX0_dropFirst_14 : decode cX0_dropFirst 14 = .ok (.getfield 22, 3) := by decide +kernel
theorem dX0_dropFirst_17 : decode cX0_dropFirst 17 = .ok (.if_icmp .ge 37, 3) := by decide +kernel
theorem dX0_dropFirst_20 : decode cX0_dropFirst 20 = .ok (.aload_n 0, 1) := by decide +kernel
theorem dX0_dropFirst_21 : decode cX0_dropFirst 21 = .ok (.getfield 9, 3) := by decide +kernel
theorem dX0_dropFirst_24 : decode cX0_dropFirst 24 = .ok (.iload_n 1, 1) := by decide +kernel
theorem dX0_dropFirst_25 : decode cX0_dropFirst 25 = .ok (.aload_n 0, 1) := by decide +kernel
theorem dX0_dropFirst_26 : decode cX0_dropFirst 26 = .ok (.getfield 9, 3) := by decide +kernel
theorem dX0_dropFirst_29 : decode cX0_dropFirst 29 = .ok (.iload_n 1, 1) := by decide +kernel
theorem dX0_dropFirst_30 : decode cX0_dropFirst 30 = .ok (.iconst 1, 1) := by decide +kernel
theorem dX0_dropFirst_31 : decode cX0_dropFirst 31 = .ok (.iadd, 1) := by decide +kernel
theorem dX0_dropFirst_32 : decode cX0_dropFirst 32 = .ok (.iaload, 1) := by decide +kernel
theorem dX0_dropFirst_33 : decode cX0_dropFirst 33 = .ok (.iastore, 1) := by decide +kernel
theorem dX0_dropFirst_34 : decode cX0_dropFirst 34 = .ok (.aload_n 0, 1) := by decide +kernel
theorem dX0_dropFirst_35 : decode cX0_dropFirst 35 = .ok (.getfield 15, 3) := by decide +kernel
theorem dX0_dropFirst_38 : decode cX0_dropFirst 38 = .ok (.iload_n 1, 1) := by decide +kernel
theorem dX0_dropFirst_39 : decode cX0_dropFirst 39 = .ok (.aload_n 0, 1) := by decide +kernel
theorem dX0_dropFirst_40 : decode cX0_dropFirst 40 = .ok (.getfield 15, 3) := by decide +kernel
theorem dX0_dropFirst_43 : decode cX0_dropFirst 43 = .ok (.iload_n 1, 1) := by decide +kernel
theorem dX0_dropFirst_44 : decode cX0_dropFirst 44 = .ok (.iconst 1, 1) := by decide +kernel
theorem dX0_dropFirst_45 : decode cX0_dropFirst 45 = .ok (.iadd, 1) := by decide +kernel
theorem dX0_dropFirst_46 : decode cX0_dropFirst 46 = .ok (.iaload, 1) := by decide +kernel
theorem dX0_dropFirst_47 : decode cX0_dropFirst 47 = .ok (.iastore, 1) := by decide +kernel
theorem dX0_dropFirst_48 : decode cX0_dropFirst 48 = .ok (.iinc 1 1, 3) := by decide +kernel
theorem dX0_dropFirst_51 : decode cX0_dropFirst 51 = .ok (.goto (-39), 3) := by decide +kernel
theorem dX0_dropFirst_54 : decode cX0_dropFirst 54 = .ok (.aload_n 0, 1) := by decide +kernel
theorem dX0_dropFirst_55 : decode cX0_dropFirst 55 = .ok (.iconst 0, 1) := by decide +kernel
theorem dX0_dropFirst_56 : decode cX0_dropFirst 56 = .ok (.putfield 25, 3) := by decide +kernel
theorem dX0_dropFirst_59 : decode cX0_dropFirst 59 = .ok (.return_, 1) := by decide +kernel
theorem dX0_giveContracted_0 : decode cX0_giveContracted 0 = .ok (.aload_n 0, 1) := by decide +kernel
theorem dX0_giveContracted_1 : decode cX0_giveContracted 1 = .ok (.iconst 0, 1) := by decide +kernel
theorem dX0_giveContracted_2 : decode cX0_giveContracted 2 = .ok (.putfield 44, 3) := by decide +kernel
theorem dX0_giveContracted_5 : decode cX0_giveContracted 5 = .ok (.aload_n 0, 1) := by decide +kernel
theorem dX0_giveContracted_6 : decode cX0_giveContracted 6 = .ok (.iload_n 1, 1) := by decide +kernel
theorem dX0_giveContracted_7 : decode cX0_giveContracted 7 = .ok (.ifCond .eq 31, 3) := by decide +kernel
theorem dX0_giveContracted_10 : decode cX0_giveContracted 10 = .ok (.aload_n 0, 1) := by decide +kernel
theorem dX0_giveContracted_11 : decode cX0_giveContracted 11 = .ok (.getfield 29, 3) := by decide +kernel
theorem dX0_giveContracted_14 : decode cX0_giveContracted 14 = .ok (.aload_n 0, 1) := by decide +kernel
theorem dX0_giveContracted_15 : decode cX0_giveContracted 15 = .ok (.getfield 32, 3) := by decide +kernel
theorem dX0_giveContracted_18 : decode cX0_giveContracted 18 = .ok (.iconst 0, 1) := by decide +kernel
theorem dX0_giveContracted_19 : decode cX0_giveContracted 19 = .ok (.aload_n 0, 1) := by decide +kernel
theorem dX0_giveContracted_20 : decode cX0_giveContracted 20 = .ok (.getfield 38, 3) := by decide +kernel
theorem dX0_giveContracted_23 : decode cX0_giveContracted 23 = .ok (.aload_n 0, 1) := by decide +kernel
theorem dX0_giveContracted_24 : decode cX0_giveContracted 24 = .ok (.getfield 29, 3) := by decide +kernel
theorem dX0_giveContracted_27 : decode cX0_giveContracted 27 = .ok (.isub, 1) := by decide +kernel
theorem dX0_giveContracted_28 : decode cX0_giveContracted 28 = .ok (.invokestatic 47, 3) := by decide +kernel
theorem dX0_giveContracted_31 : decode cX0_giveContracted 31 = .ok (.invokestatic 53, 3) := by decide +kernel
theorem dX0_giveContracted_34 : decode cX0_giveContracted 34 = .ok (.iadd, 1) := by decide +kernel
theorem dX0_giveContracted_35 : decode cX0_giveContracted 35 = .ok (.goto 4, 3) := by decide +kernel
theorem dX0_giveContracted_38 : decode cX0_giveContracted 38 = .ok (.iconst 0, 1) := by decide +kernel
theorem dX0_giveContracted_39 : decode cX0_giveContracted 39 = .ok (.putfield 41, 3) := by decide +kernel
theorem dX0_giveContracted_42 : decode cX0_giveContracted 42 = .ok (.return_, 1) := by decide +kernel
theorem dX0_wants_0 : decode cX0_wants 0 = .ok (.aload_n 0, 1) := by decide +kernel
theorem dX0_wants_1 : decode cX0_wants 1 = .ok (.getfield 41, 3) := by decide +kernel
theorem dX0_wants_4 : decode cX0_wants 4 = .ok (.aload_n 0, 1) := by decide +kernel
theorem dX0_wants_5 : decode cX0_wants 5 = .ok (.getfield 35, 3) := by decide +kernel
theorem dX0_wants_8 : decode cX0_wants 8 = .ok (.if_icmp .ge 18, 3) := by decide +kernel
theorem dX0_wants_11 : decode cX0_wants 11 = .ok (.aload_n 0, 1) := by decide +kernel
theorem dX0_wants_12 : decode cX0_wants 12 = .ok (.getfield 41, 3) := by decide +kernel
theorem dX0_wants_15 : decode cX0_wants 15 = .ok (.aload_n 0, 1) := by decide +kernel
theorem dX0_wants_16 : decode cX0_wants 16 = .ok (.getfield 38, 3) := by decide +kernel
theorem dX0_wants_19 : decode cX0_wants 19 = .ok (.if_icmp .ge 7, 3) := by decide +kernel
theorem dX0_wants_22 : decode cX0_wants 22 = .ok (.iconst 1, 1) := by decide +kernel
theorem dX0_wants_23 : decode cX0_wants 23 = .ok (.goto 4, 3) := by decide +kernel
theorem dX0_wants_26 : decode cX0_wants 26 = .ok (.iconst 0, 1) := by decide +kernel
theorem dX0_wants_27 : decode cX0_wants 27 = .ok (.ireturn, 1) := by decide +kernel
theorem dX0_hasLessSpareThan_0 : decode cX0_hasLessSpareThan 0 = .ok (.aload_n 0, 1) := by decide +kernel
theorem dX0_hasLessSpareThan_1 : decode cX0_hasLessSpareThan 1 = .ok (.getfield 44, 3) := by decide +kernel
theorem dX0_hasLessSpareThan_4 : decode cX0_hasLessSpareThan 4 = .ok (.aload_n 1, 1) := by decide +kernel
theorem dX0_hasLessSpareThan_5 : decode cX0_hasLessSpareThan 5 = .ok (.getfield 18, 3) := by decide +kernel
theorem dX0_hasLessSpareThan_8 : decode cX0_hasLessSpareThan 8 = .ok (.imul, 1) := by decide +kernel
theorem dX0_hasLessSpareThan_9 : decode cX0_hasLessSpareThan 9 = .ok (.aload_n 1, 1) := by decide +kernel
theorem dX0_hasLessSpareThan_10 : decode cX0_hasLessSpareThan 10 = .ok (.getfield 44, 3) := by decide +kernel
theorem dX0_hasLessSpareThan_13 : decode cX0_hasLessSpareThan 13 = .ok (.aload_n 0, 1) := by decide +kernel
theorem dX0_hasLessSpareThan_14 : decode cX0_hasLessSpareThan 14 = .ok (.getfield 18, 3) := by decide +kernel
theorem dX0_hasLessSpareThan_17 : decode cX0_hasLessSpareThan 17 = .ok (.imul, 1) := by decide +kernel
theorem dX0_hasLessSpareThan_18 : decode cX0_hasLessSpareThan 18 = .ok (.if_icmp .ge 7, 3) := by decide +kernel
theorem dX0_hasLessSpareThan_21 : decode cX0_hasLessSpareThan 21 = .ok (.iconst 1, 1) := by decide +kernel
theorem dX0_hasLessSpareThan_22 : decode cX0_hasLessSpareThan 22 = .ok (.goto 4, 3) := by decide +kernel
theorem dX0_hasLessSpareThan_25 : decode cX0_hasLessSpareThan 25 = .ok (.iconst 0, 1) := by decide +kernel
theorem dX0_hasLessSpareThan_26 : decode cX0_hasLessSpareThan 26 = .ok (.ireturn, 1) := by decide +kernel
set_option maxRecDepth 20000 in
theorem ggX1_init_X0_init : GoodIn wsX1_init wsX0_init := goodIn_r _ [9, 10, 2, 3, 11, 12, 13, 14, 30, 31, 32, 33, 34, 35, 36, 37, 38, 39, 40] (by decide +kernel) (by decide +kernel)
set_option maxRecDepth 20000 in
theorem gX1_init_X0_init_n17 : GoodIn wsX1_init (wsX0_init) := ggX1_init_X0_init
theorem dX1_init_0 : decode cX1_init 0 = .ok (.aload_n 0, 1) := by decide +kernel
theorem dX1_init_1 : decode cX1_init 1 = .ok (.invokespecial 3, 3) := by decide +kernel
theorem dX1_init_4 : decode cX1_init 4 = .ok (.aload_n 0, 1) := by decide +kernel
theorem dX1_init_5 : decode cX1_init 5 = .ok (.iconst 2, 1) := by decide +kernel
theorem dX1_init_6 : decode cX1_init 6 = .ok (.anewarray 9, 3) := by decide +kernel
theorem dX1_init_9 : decode cX1_init 9 = .ok (.putfield 11, 3) := by decide +kernel
theorem dX1_init_12 : decode cX1_init 12 = .ok (.iconst 0, 1) := by decide +kernel
theorem dX1_init_13 : decode cX1_init 13 = .ok (.istore_n 1, 1) := by decide +kernel
theorem dX1_init_14 : decode cX1_init 14 = .ok (.iload_n 1, 1) := by decide +kernel
theorem dX1_init_15 : decode cX1_init 15 = .ok (.iconst 2, 1) := by decide +kernel
theorem dX1_init_16 : decode cX1_init 16 = .ok (.if_icmp .ge 22, 3) := by decide +kernel
theorem dX1_init_19 : decode cX1_init 19 = .ok (.aload_n 0, 1) := by decide +kernel
theorem dX1_init_20 : decode cX1_init 20 = .ok (.getfield 11, 3) := by decide +kernel
theorem dX1_init_23 : decode cX1_init 23 = .ok (.iload_n 1, 1) := by decide +kernel
theorem dX1_init_24 : decode cX1_init 24 = .ok (.new 9, 3) := by decide +kernel
theorem dX1_init_27 : decode cX1_init 27 = .ok (.dup, 1) := by decide +kernel
theorem dX1_init_28 : decode cX1_init 28 = .ok (.invokespecial 17, 3) := by decide +kernel
theorem dX1_init_31 : decode cX1_init 31 = .ok (.aastore, 1) := by decide +kernel
theorem dX1_init_32 : decode cX1_init 32 = .ok (.iinc 1 1, 3) := by decide +kernel
theorem dX1_init_35 : decode cX1_init 35 = .ok (.goto (-21), 3) := by decide +kernel
theorem dX1_init_38 : decode cX1_init 38 = .ok (.return_, 1) := by decide +kernel
set_option maxRecDepth 20000 in
theorem ggX1_clear_X0_clear : GoodIn wsX1_clear wsX0_clear := goodIn_r _ [20, 21, 22, 23, 24, 25, 26, 27, 28, 29, 45, 46, 47, 48, 49, 50, 51, 52, 53, 54, 55] (by decide +kernel) (by decide +kernel)
set_option maxRecDepth 20000 in
theorem gX1_clear_X0_clear : GoodIn wsX1_clear (wsV RX1 62 RX0 yX0_clear wsX0_clear) := goodIn_app (goodIn_of _ (by decide +kernel)) ggX1_clear_X0_clear
theorem dX1_clear_0 : decode cX1_clear 0 = .ok (.aload_n 0, 1) := by decide +kernel
theorem dX1_clear_1 : decode cX1_clear 1 = .ok (.iconst 0, 1) := by decide +kernel
theorem dX1_clear_2 : decode cX1_clear 2 = .ok (.putfield 18, 3) := by decide +kernel
theorem dX1_clear_5 : decode cX1_clear 5 = .ok (.aload_n 0, 1) := by decide +kernel
theorem dX1_clear_6 : decode cX1_clear 6 = .ok (.iconst 0, 1) := by decide +kernel
theorem dX1_clear_7 : decode cX1_clear 7 = .ok (.putfield 22, 3) := by decide +kernel
theorem dX1_clear_10 : decode cX1_clear 10 = .ok (.aload_n 0, 1) := by decide +kernel
theorem dX1_clear_11 : decode cX1_clear 11 = .ok (.iconst 0, 1) := by decide +kernel
theorem dX1_clear_12 : decode cX1_clear 12 = .ok (.putfield 25, 3) := by decide +kernel
theorem dX1_clear_15 : decode cX1_clear 15 = .ok (.aload_n 0, 1) := by decide +kernel
theorem dX1_clear_16 : decode cX1_clear 16 = .ok (.iconst 0, 1) := by decide +kernel
theorem dX1_clear_17 : decode cX1_clear 17 = .ok (.putfield 28, 3) := by decide +kernel
theorem dX1_clear_20 : decode cX1_clear 20 = .ok (.aload_n 0, 1) := by decide +kernel
theorem dX1_clear_21 : decode cX1_clear 21 = .ok (.iconst 0, 1) := by decide +kernel
theorem dX1_clear_22 : decode cX1_clear 22 = .ok (.putfield 31, 3) := by decide +kernel
theorem dX1_clear_25 : decode cX1_clear 25 = .ok (.aload_n 0, 1) := by decide +kernel
theorem dX1_clear_26 : decode cX1_clear 26 = .ok (.iconst 0, 1) := by decide +kernel
theorem dX1_clear_27 : decode cX1_clear 27 = .ok (.putfield 34, 3) := by decide +kernel
theorem dX1_clear_30 : decode cX1_clear 30 = .ok (.aload_n 0, 1) := by decide +kernel
theorem dX1_clear_31 : decode cX1_clear 31 = .ok (.iconst 0, 1) := by decide +kernel
theorem dX1_clear_32 : decode cX1_clear 32 = .ok (.putfield 37, 3) := by decide +kernel
theorem dX1_clear_35 : decode cX1_clear 35 = .ok (.aload_n 0, 1) := by decide +kernel
theorem dX1_clear_36 : decode cX1_clear 36 = .ok (.iconst 0, 1) := by decide +kernel
theorem dX1_clear_37 : decode cX1_clear 37 = .ok (.putfield 41, 3) := by decide +kernel
theorem dX1_clear_40 : decode cX1_clear 40 = .ok (.aload_n 0, 1) := by decide +kernel
theorem dX1_clear_41 : decode cX1_clear 41 = .ok (.iconst 0, 1) := by decide +kernel
theorem dX1_clear_42 : decode cX1_clear 42 = .ok (.putfield 44, 3) := by decide +kernel
theorem dX1_clear_45 : decode cX1_clear 45 = .ok (.aload_n 0, 1) := by decide +kernel
theorem dX1_clear_46 : decode cX1_clear 46 = .ok (.iconst 0, 1) := by decide +kernel
theorem dX1_clear_47 : decode cX1_clear 47 = .ok (.putfield 47, 3) := by decide +kernel
theorem dX1_clear_50 : decode cX1_clear 50 = .ok (.aload_n 0, 1) := by decide +kernel
theorem dX1_clear_51 : decode cX1_clear 51 = .ok (.iconst 0, 1) := by decide +kernel
theorem dX1_clear_52 : decode cX1_clear 52 = .ok (.putfield 50, 3) := by decide +kernel
theorem dX1_clear_55 : decode cX1_clear 55 = .ok (.aload_n 0, 1) := by decide +kernel
theorem dX1_clear_56 : decode cX1_clear 56 = .ok (.iconst 0, 1) := by decide +kernel
theorem dX1_clear_57 : decode cX1_clear 57 = .ok (.putfield 53, 3) := by decide +kernel
theorem dX1_clear_60 : decode cX1_clear 60 = .ok (.aload_n 0, 1) := by decide +kernel
theorem dX1_clear_61 : decode cX1_clear 61 = .ok (.iconst 0, 1) := by decide +kernel
theorem dX1_clear_62 : decode cX1_clear 62 = .ok (.putfield 56, 3) := by decide +kernel
theorem dX1_clear_65 : decode cX1_clear 65 = .ok (.aload_n 0, 1) := by decide +kernel
theorem dX1_clear_66 : decode cX1_clear 66 = .ok (.iconst 0, 1) := by decide +kernel
theorem dX1_clear_67 : decode cX1_clear 67 = .ok (.putfield 59, 3) := by decide +kernel
theorem dX1_clear_70 : decode cX1_clear 70 = .ok (.aload_n 0, 1) := by decide +kernel
theorem dX1_clear_71 : decode cX1_clear 71 = .ok (.getfield 11, 3) := by decide +kernel
theorem dX1_clear_74 : decode cX1_clear 74 = .ok (.astore_n 1, 1) := by decide +kernel
theorem dX1_clear_75 : decode cX1_clear 75 = .ok (.aload_n 1, 1) := by decide +kernel
theorem dX1_clear_76 : decode cX1_clear 76 = .ok (.arraylength, 1) := by decide +kernel
theorem dX1_clear_77 : decode cX1_clear 77 = .ok (.istore_n 2, 1) := by decide +kernel
theorem dX1_clear_78 : decode cX1_clear 78 = .ok (.iconst 0, 1) := by decide +kernel
theorem dX1_clear_79 : decode cX1_clear 79 = .ok (.istore_n 3, 1) := by decide +kernel
theorem dX1_clear_80 : decode cX1_clear 80 = .ok (.iload_n 3, 1) := by decide +kernel
theorem dX1_clear_81 : decode cX1_clear 81 = .ok (.iload_n 2, 1) := by decide +kernel
theorem dX1_clear_82 : decode cX1_clear 82 = .ok (.if_icmp .ge 19, 3) := by decide +kernel
theorem dX1_clear_85 : decode cX1_clear 85 = .ok (.aload_n 1, 1) := by decide +kernel
theorem dX1_clear_86 : decode cX1_clear 86 = .ok (.iload_n 3, 1) := by decide +kernel
theorem dX1_clear_87 : decode cX1_clear 87 = .ok (.aaload, 1) := by decide +kernel
theorem dX1_clear_88 : decode cX1_clear 88 = .ok (.astore 4, 2) := by decide +kernel
theorem dX1_clear_90 : decode cX1_clear 90 = .ok (.aload 4, 2) := by decide +kernel
theorem dX1_clear_92 : decode cX1_clear 92 = .ok (.invokevirtual 62, 3) := by decide +kernel
theorem dX1_clear_95 : decode cX1_clear 95 = .ok (.iinc 3 1, 3) := by decide +kernel
theorem dX1_clear_98 : decode cX1_clear 98 = .ok (.goto (-18), 3) := by decide +kernel
theorem dX1_clear_101 : decode cX1_clear 101 = .ok (.return_, 1) := by decide +kernel
set_option maxRecDepth 20000 in
theorem ggX1_answerWindow_X2_mix : GoodIn wsX1_answerWindow wsX2_mix := goodIn_r _ [5, 6, 7] (by decide +kernel) (by decide +kernel)
set_option maxRecDepth 20000 in
theorem gX1_answerWindow_X2_mix_n65 : GoodIn wsX1_answerWindow (wsX2_mix) := ggX1_answerWindow_X2_mix
theorem dX1_answerWindow_0 : decode cX1_answerWindow 0 = .ok (.aload_n 0, 1) := by decide +kernel
theorem dX1_answerWindow_1 : decode cX1_answerWindow 1 = .ok (.getfield 22, 3) := by decide +kernel
theorem dX1_answerWindow_4 : decode cX1_answerWindow 4 = .ok (.aload_n 0, 1) := by decide +kernel
theorem dX1_answerWindow_5 : decode cX1_answerWindow 5 = .ok (.getfield 28, 3) := by decide +kernel
theorem dX1_answerWindow_8 : decode cX1_answerWindow 8 = .ok (.invokestatic 65, 3) := by decide +kernel
theorem dX1_answerWindow_11 : decode cX1_answerWindow 11 = .ok (.iconst 1, 1) := by decide +kernel
theorem dX1_answerWindow_12 : decode cX1_answerWindow 12 = .ok (.iushr, 1) := by decide +kernel
theorem dX1_answerWindow_13 : decode cX1_answerWindow 13 = .ok (.bipush 8, 2) := by decide +kernel
theorem dX1_answerWindow_15 : decode cX1_answerWindow 15 = .ok (.irem, 1) := by decide +kernel
theorem dX1_answerWindow_16 : decode cX1_answerWindow 16 = .ok (.ireturn, 1) := by decide +kernel
theorem dX1_burstLength_0 : decode cX1_burstLength 0 = .ok (.bipush 16, 2) := by decide +kernel
theorem dX1_burstLength_2 : decode cX1_burstLength 2 = .ok (.istore_n 1, 1) := by decide +kernel
theorem dX1_burstLength_3 : decode cX1_burstLength 3 = .ok (.aload_n 0, 1) := by decide +kernel
theorem dX1_burstLength_4 : decode cX1_burstLength 4 = .ok (.getfield 11, 3) := by decide +kernel
theorem dX1_burstLength_7 : decode cX1_burstLength 7 = .ok (.astore_n 2, 1) := by decide +kernel
theorem dX1_burstLength_8 : decode cX1_burstLength 8 = .ok (.aload_n 2, 1) := by decide +kernel
theorem dX1_burstLength_9 : decode cX1_burstLength 9 = .ok (.arraylength, 1) := by decide +kernel
theorem dX1_burstLength_10 : decode cX1_burstLength 10 = .ok (.istore_n 3, 1) := by decide +kernel
theorem dX1_burstLength_11 : decode cX1_burstLength 11 = .ok (.iconst 0, 1) := by decide +kernel
theorem dX1_burstLength_12 : decode cX1_burstLength 12 = .ok (.istore 4, 2) := by decide +kernel
theorem dX1_burstLength_14 : decode cX1_burstLength 14 = .ok (.iload 4, 2) := by decide +kernel
theorem dX1_burstLength_16 : decode cX1_burstLength 16 = .ok (.iload_n 3, 1) := by decide +kernel
theorem dX1_burstLength_17 : decode cX1_burstLength 17 = .ok (.if_icmp .ge 26, 3) := by decide +kernel
theorem dX1_burstLength_20 : decode cX1_burstLength 20 = .ok (.aload_n 2, 1) := by decide +kernel
theorem dX1_burstLength_21 : decode cX1_burstLength 21 = .ok (.iload 4, 2) := by decide +kernel
theorem dX1_burstLength_23 : decode cX1_burstLength 23 = .ok (.aaload, 1) := by decide +kernel
theorem dX1_burstLength_24 : decode cX1_burstLength 24 = .ok (.astore 5, 2) := by decide +kernel
theorem dX1_burstLength_26 : decode cX1_burstLength 26 = .ok (.iload_n 1, 1) := by decide +kernel
theorem dX1_burstLength_27 : decode cX1_burstLength 27 = .ok (.bipush 16, 2) := by decide +kernel
theorem dX1_burstLength_29 : decode cX1_burstLength 29 = .ok (.aload 5, 2) := by decide +kernel
theorem dX1_burstLength_31 : decode cX1_burstLength 31 = .ok (.getfield 69, 3) := by decide +kernel
theorem dX1_burstLength_34 : decode cX1_burstLength 34 = .ok (.imul, 1) := by decide +kernel
theorem dX1_burstLength_35 : decode cX1_burstLength 35 = .ok (.iadd, 1) := by decide +kernel
theorem dX1_burstLength_36 : decode cX1_burstLength 36 = .ok (.istore_n 1, 1) := by decide +kernel
theorem dX1_burstLength_37 : decode cX1_burstLength 37 = .ok (.iinc 4 1, 3) := by decide +kernel
theorem dX1_burstLength_40 : decode cX1_burstLength 40 = .ok (.goto (-26), 3) := by decide +kernel
theorem dX1_burstLength_43 : decode cX1_burstLength 43 = .ok (.iload_n 1, 1) := by decide +kernel
theorem dX1_burstLength_44 : decode cX1_burstLength 44 = .ok (.ireturn, 1) := by decide +kernel
set_option maxRecDepth 20000 in
theorem ggX1_takeWord_X2_mix : GoodIn wsX1_takeWord wsX2_mix := goodIn_r _ [8, 9, 10] (by decide +kernel) (by decide +kernel)
set_option maxRecDepth 20000 in
theorem gX1_takeWord_X2_mix_n65 : GoodIn wsX1_takeWord (wsX2_mix) := ggX1_takeWord_X2_mix
theorem dX1_takeWord_0 : decode cX1_takeWord 0 = .ok (.aload_n 0, 1) := by decide +kernel
theorem dX1_takeWord_1 : decode cX1_takeWord 1 = .ok (.getfield 47, 3) := by decide +kernel
theorem dX1_takeWord_4 : decode cX1_takeWord 4 = .ok (.ifCond .eq 37, 3) := by decide +kernel
theorem dX1_takeWord_7 : decode cX1_takeWord 7 = .ok (.aload_n 0, 1) := by decide +kernel
theorem dX1_takeWord_8 : decode cX1_takeWord 8 = .ok (.getfield 34, 3) := by decide +kernel
theorem dX1_takeWord_11 : decode cX1_takeWord 11 = .ok (.iload_n 1, 1) := by decide +kernel
theorem dX1_takeWord_12 : decode cX1_takeWord 12 = .ok (.invokestatic 65, 3) := by decide +kernel
theorem dX1_takeWord_15 : decode cX1_takeWord 15 = .ok (.istore_n 2, 1) := by decide +kernel
theorem dX1_takeWord_16 : decode cX1_takeWord 16 = .ok (.aload_n 0, 1) := by decide +kernel
theorem dX1_takeWord_17 : decode cX1_takeWord 17 = .ok (.aload_n 0, 1) := by decide +kernel
theorem dX1_takeWord_18 : decode cX1_takeWord 18 = .ok (.getfield 50, 3) := by decide +kernel
theorem dX1_takeWord_21 : decode cX1_takeWord 21 = .ok (.iload_n 2, 1) := by decide +kernel
theorem dX1_takeWord_22 : decode cX1_takeWord 22 = .ok (.ixor, 1) := by decide +kernel
theorem dX1_takeWord_23 : decode cX1_takeWord 23 = .ok (.putfield 56, 3) := by decide +kernel
theorem dX1_takeWord_26 : decode cX1_takeWord 26 = .ok (.aload_n 0, 1) := by decide +kernel
theorem dX1_takeWord_27 : decode cX1_takeWord 27 = .ok (.aload_n 0, 1) := by decide +kernel
theorem dX1_takeWord_28 : decode cX1_takeWord 28 = .ok (.getfield 56, 3) := by decide +kernel
theorem dX1_takeWord_31 : decode cX1_takeWord 31 = .ok (.iload_n 2, 1) := by decide +kernel
theorem dX1_takeWord_32 : decode cX1_takeWord 32 = .ok (.ixor, 1) := by decide +kernel
theorem dX1_takeWord_33 : decode cX1_takeWord 33 = .ok (.putfield 53, 3) := by decide +kernel
theorem dX1_takeWord_36 : decode cX1_takeWord 36 = .ok (.aload_n 0, 1) := by decide +kernel
theorem dX1_takeWord_37 : decode cX1_takeWord 37 = .ok (.iconst 0, 1) := by decide +kernel
theorem dX1_takeWord_38 : decode cX1_takeWord 38 = .ok (.putfield 47, 3) := by decide +kernel
theorem dX1_takeWord_41 : decode cX1_takeWord 41 = .ok (.return_, 1) := by decide +kernel
theorem dX1_takeKey_0 : decode cX1_takeKey 0 = .ok (.aload_n 0, 1) := by decide +kernel
theorem dX1_takeKey_1 : decode cX1_takeKey 1 = .ok (.getfield 37, 3) := by decide +kernel
theorem dX1_takeKey_4 : decode cX1_takeKey 4 = .ok (.ifCond .eq 31, 3) := by decide +kernel
theorem dX1_takeKey_7 : decode cX1_takeKey 7 = .ok (.aload_n 0, 1) := by decide +kernel
theorem dX1_takeKey_8 : decode cX1_takeKey 8 = .ok (.aload_n 0, 1) := by decide +kernel
theorem dX1_takeKey_9 : decode cX1_takeKey 9 = .ok (.getfield 41, 3) := by decide +kernel
theorem dX1_takeKey_12 : decode cX1_takeKey 12 = .ok (.putfield 44, 3) := by decide +kernel
theorem dX1_takeKey_15 : decode cX1_takeKey 15 = .ok (.aload_n 0, 1) := by decide +kernel
theorem dX1_takeKey_16 : decode cX1_takeKey 16 = .ok (.getfield 59, 3) := by decide +kernel
theorem dX1_takeKey_19 : decode cX1_takeKey 19 = .ok (.ifCond .ne 16, 3) := by decide +kernel
theorem dX1_takeKey_22 : decode cX1_takeKey 22 = .ok (.aload_n 0, 1) := by decide +kernel
theorem dX1_takeKey_23 : decode cX1_takeKey 23 = .ok (.aload_n 0, 1) := by decide +kernel
theorem dX1_takeKey_24 : decode cX1_takeKey 24 = .ok (.getfield 41, 3) := by decide +kernel
theorem dX1_takeKey_27 : decode cX1_takeKey 27 = .ok (.putfield 34, 3) := by decide +kernel
theorem dX1_takeKey_30 : decode cX1_takeKey 30 = .ok (.aload_n 0, 1) := by decide +kernel
theorem dX1_takeKey_31 : decode cX1_takeKey 31 = .ok (.iconst 0, 1) := by decide +kernel
theorem dX1_takeKey_32 : decode cX1_takeKey 32 = .ok (.putfield 37, 3) := by decide +kernel
theorem dX1_takeKey_35 : decode cX1_takeKey 35 = .ok (.return_, 1) := by decide +kernel
set_option maxRecDepth 20000 in
theorem ggX2_init_X1_init : GoodIn wsX2_init wsX1_init := goodIn_r _ [17, 18, 2, 3, 19, 20, 21, 22, 23, 24, 25, 8, 26, 27, 28, 45, 46, 47, 48, 49, 50, 51, 52, 53, 54, 55, 56, 57, 58, 59, 60, 61, 62, 63, 64, 65, 66, 67, 68, 69, 70] (by decide +kernel) (by decide +kernel)
set_option maxRecDepth 20000 in
theorem gX2_init_X1_init : GoodIn wsX2_init (wsX1_init) := ggX2_init_X1_init
theorem dX2_init_0 : decode cX2_init 0 = .ok (.aload_n 0, 1) := by decide +kernel
theorem dX2_init_1 : decode cX2_init 1 = .ok (.invokespecial 1, 3) := by decide +kernel
theorem dX2_init_4 : decode cX2_init 4 = .ok (.aload_n 0, 1) := by decide +kernel
theorem dX2_init_5 : decode cX2_init 5 = .ok (.iconst 5, 1) := by decide +kernel
theorem dX2_init_6 : decode cX2_init 6 = .ok (.anewarray 9, 3) := by decide +kernel
theorem dX2_init_9 : decode cX2_init 9 = .ok (.putfield 11, 3) := by decide +kernel
theorem dX2_init_12 : decode cX2_init 12 = .ok (.aload_n 0, 1) := by decide +kernel
theorem dX2_init_13 : decode cX2_init 13 = .ok (.iconst 2, 1) := by decide +kernel
theorem dX2_init_14 : decode cX2_init 14 = .ok (.newarray .boolean, 2) := by decide +kernel
theorem dX2_init_16 : decode cX2_init 16 = .ok (.putfield 15, 3) := by decide +kernel
theorem dX2_init_19 : decode cX2_init 19 = .ok (.aload_n 0, 1) := by decide +kernel
theorem dX2_init_20 : decode cX2_init 20 = .ok (.sipush 400, 3) := by decide +kernel
theorem dX2_init_23 : decode cX2_init 23 = .ok (.newarray .int, 2) := by decide +kernel
theorem dX2_init_25 : decode cX2_init 25 = .ok (.putfield 19, 3) := by decide +kernel
theorem dX2_init_28 : decode cX2_init 28 = .ok (.aload_n 0, 1) := by decide +kernel
theorem dX2_init_29 : decode cX2_init 29 = .ok (.bipush 8, 2) := by decide +kernel
theorem dX2_init_31 : decode cX2_init 31 = .ok (.newarray .int, 2) := by decide +kernel
theorem dX2_init_33 : decode cX2_init 33 = .ok (.putfield 23, 3) := by decide +kernel
theorem dX2_init_36 : decode cX2_init 36 = .ok (.aload_n 0, 1) := by decide +kernel
theorem dX2_init_37 : decode cX2_init 37 = .ok (.iconst 5, 1) := by decide +kernel
theorem dX2_init_38 : decode cX2_init 38 = .ok (.newarray .int, 2) := by decide +kernel
theorem dX2_init_40 : decode cX2_init 40 = .ok (.putfield 26, 3) := by decide +kernel
theorem dX2_init_43 : decode cX2_init 43 = .ok (.aload_n 0, 1) := by decide +kernel
theorem dX2_init_44 : decode cX2_init 44 = .ok (.iconst 5, 1) := by decide +kernel
theorem dX2_init_45 : decode cX2_init 45 = .ok (.newarray .int, 2) := by decide +kernel
theorem dX2_init_47 : decode cX2_init 47 = .ok (.putfield 29, 3) := by decide +kernel
theorem dX2_init_50 : decode cX2_init 50 = .ok (.iconst 0, 1) := by decide +kernel
theorem dX2_init_51 : decode cX2_init 51 = .ok (.istore_n 1, 1) := by decide +kernel
theorem dX2_init_52 : decode cX2_init 52 = .ok (.iload_n 1, 1) := by decide +kernel
theorem dX2_init_53 : decode cX2_init 53 = .ok (.iconst 5, 1) := by decide +kernel
theorem dX2_init_54 : decode cX2_init 54 = .ok (.if_icmp .ge 22, 3) := by decide +kernel
theorem dX2_init_57 : decode cX2_init 57 = .ok (.aload_n 0, 1) := by decide +kernel
theorem dX2_init_58 : decode cX2_init 58 = .ok (.getfield 11, 3) := by decide +kernel
theorem dX2_init_61 : decode cX2_init 61 = .ok (.iload_n 1, 1) := by decide +kernel
theorem dX2_init_62 : decode cX2_init 62 = .ok (.new 9, 3) := by decide +kernel
theorem dX2_init_65 : decode cX2_init 65 = .ok (.dup, 1) := by decide +kernel
theorem dX2_init_66 : decode cX2_init 66 = .ok (.invokespecial 32, 3) := by decide +kernel
theorem dX2_init_69 : decode cX2_init 69 = .ok (.aastore, 1) := by decide +kernel
theorem dX2_init_70 : decode cX2_init 70 = .ok (.iinc 1 1, 3) := by decide +kernel
theorem dX2_init_73 : decode cX2_init 73 = .ok (.goto (-21), 3) := by decide +kernel
theorem dX2_init_76 : decode cX2_init 76 = .ok (.return_, 1) := by decide +kernel
set_option maxRecDepth 20000 in
theorem ggX2_plug_X2_hasSerial : GoodIn wsX2_plug wsX2_hasSerial := goodIn_r _ [13, 5, 6, 7, 21, 22, 23, 24, 25, 26, 27, 28, 29, 30, 31, 32, 33, 34, 35, 36, 37, 38, 39, 40, 41, 42, 43, 44, 45, 46, 47, 48, 49, 50, 51] (by decide +kernel) (by decide +kernel)
set_option maxRecDepth 20000 in
theorem gX2_plug_X2_hasSerial : GoodIn wsX2_plug (wsV RX2 33 RX2 yX2_hasSerial wsX2_hasSerial) := goodIn_app (goodIn_of _ (by decide +kernel)) ggX2_plug_X2_hasSerial
set_option maxRecDepth 20000 in
theorem ggX2_plug_X2_isWay : GoodIn wsX2_plug wsX2_isWay := goodIn_r _ [16] (by decide +kernel) (by decide +kernel)
set_option maxRecDepth 20000 in
theorem gX2_plug_X2_isWay : GoodIn wsX2_plug (va_wsS RX2 44 yX2_isWay wsX2_isWay) := goodIn_app (goodIn_of _ (by decide +kernel)) ggX2_plug_X2_isWay
set_option maxRecDepth 20000 in
theorem ggX2_plug_X2_firstAway : GoodIn wsX2_plug wsX2_firstAway := goodIn_r _ [20, 5, 6, 21, 22, 23, 24, 25, 26, 27, 28, 29, 30, 31, 32, 33, 34, 35, 36, 37, 38, 39, 40, 41, 42, 43, 44, 45, 46, 47, 48, 49, 50, 51] (by decide +kernel) (by decide +kernel)
set_option maxRecDepth 20000 in
theorem gX2_plug_X2_firstAway : GoodIn wsX2_plug (wsV RX2 49 RX2 yX2_firstAway wsX2_firstAway) := goodIn_app (goodIn_of _ (by decide +kernel)) ggX2_plug_X2_firstAway
theorem dX2_plug_0 : decode cX2_plug 0 = .ok (.iload_n 1, 1) := by decide +kernel
theorem dX2_plug_1 : decode cX2_plug 1 = .ok (.ifCond .lt 18, 3) := by decide +kernel
theorem dX2_plug_4 : decode cX2_plug 4 = .ok (.iload_n 1, 1) := by decide +kernel
theorem dX2_plug_5 : decode cX2_plug 5 = .ok (.sipush 9999, 3) := by decide +kernel
theorem dX2_plug_8 : decode cX2_plug 8 = .ok (.if_icmp .gt 11, 3) := by decide +kernel
theorem dX2_plug_11 : decode cX2_plug 11 = .ok (.aload_n 0, 1) := by decide +kernel
theorem dX2_plug_12 : decode cX2_plug 12 = .ok (.iload_n 1, 1) := by decide +kernel
theorem dX2_plug_13 : decode cX2_plug 13 = .ok (.invokevirtual 33, 3) := by decide +kernel
theorem dX2_plug_16 : decode cX2_plug 16 = .ok (.ifCond .eq 13, 3) := by decide +kernel
theorem dX2_plug_19 : decode cX2_plug 19 = .ok (.new 37, 3) := by decide +kernel
theorem dX2_plug_22 : decode cX2_plug 22 = .ok (.dup, 1) := by decide +kernel
theorem dX2_plug_23 : decode cX2_plug 23 = .ok (.ldc 39, 2) := by decide +kernel
theorem dX2_plug_25 : decode cX2_plug 25 = .ok (.invokespecial 41, 3) := by decide +kernel
theorem dX2_plug_28 : decode cX2_plug 28 = .ok (.athrow, 1) := by decide +kernel
theorem dX2_plug_29 : decode cX2_plug 29 = .ok (.iload_n 2, 1) := by decide +kernel
theorem dX2_plug_30 : decode cX2_plug 30 = .ok (.invokestatic 44, 3) := by decide +kernel
theorem dX2_plug_33 : decode cX2_plug 33 = .ok (.ifCond .ne 13, 3) := by decide +kernel
theorem dX2_plug_36 : decode cX2_plug 36 = .ok (.new 37, 3) := by decide +kernel
theorem dX2_plug_39 : decode cX2_plug 39 = .ok (.dup, 1) := by decide +kernel
theorem dX2_plug_40 : decode cX2_plug 40 = .ok (.ldc 47, 2) := by decide +kernel
theorem dX2_plug_42 : decode cX2_plug 42 = .ok (.invokespecial 41, 3) := by decide +kernel
theorem dX2_plug_45 : decode cX2_plug 45 = .ok (.athrow, 1) := by decide +kernel
theorem dX2_plug_46 : decode cX2_plug 46 = .ok (.aload_n 0, 1) := by decide +kernel
theorem dX2_plug_47 : decode cX2_plug 47 = .ok (.invokevirtual 49, 3) := by decide +kernel
theorem dX2_plug_50 : decode cX2_plug 50 = .ok (.istore_n 3, 1) := by decide +kernel
theorem dX2_plug_51 : decode cX2_plug 51 = .ok (.iload_n 3, 1) := by decide +kernel
theorem dX2_plug_52 : decode cX2_plug 52 = .ok (.iconst 5, 1) := by decide +kernel
theorem dX2_plug_53 : decode cX2_plug 53 = .ok (.if_icmp .ne 13, 3) := by decide +kernel
theorem dX2_plug_56 : decode cX2_plug 56 = .ok (.new 53, 3) := by decide +kernel
theorem dX2_plug_59 : decode cX2_plug 59 = .ok (.dup, 1) := by decide +kernel
theorem dX2_plug_60 : decode cX2_plug 60 = .ok (.ldc 55, 2) := by decide +kernel
theorem dX2_plug_62 : decode cX2_plug 62 = .ok (.invokespecial 57, 3) := by decide +kernel
theorem dX2_plug_65 : decode cX2_plug 65 = .ok (.athrow, 1) := by decide +kernel
theorem dX2_plug_66 : decode cX2_plug 66 = .ok (.aload_n 0, 1) := by decide +kernel
theorem dX2_plug_67 : decode cX2_plug 67 = .ok (.getfield 11, 3) := by decide +kernel
theorem dX2_plug_70 : decode cX2_plug 70 = .ok (.iload_n 3, 1) := by decide +kernel
theorem dX2_plug_71 : decode cX2_plug 71 = .ok (.aaload, 1) := by decide +kernel
theorem dX2_plug_72 : decode cX2_plug 72 = .ok (.astore 4, 2) := by decide +kernel
theorem dX2_plug_74 : decode cX2_plug 74 = .ok (.aload 4, 2) := by decide +kernel
theorem dX2_plug_76 : decode cX2_plug 76 = .ok (.iconst 1, 1) := by decide +kernel
theorem dX2_plug_77 : decode cX2_plug 77 = .ok (.putfield 58, 3) := by decide +kernel
theorem dX2_plug_80 : decode cX2_plug 80 = .ok (.aload 4, 2) := by decide +kernel
theorem dX2_plug_82 : decode cX2_plug 82 = .ok (.iload_n 1, 1) := by decide +kernel
theorem dX2_plug_83 : decode cX2_plug 83 = .ok (.putfield 62, 3) := by decide +kernel
theorem dX2_plug_86 : decode cX2_plug 86 = .ok (.aload 4, 2) := by decide +kernel
theorem dX2_plug_88 : decode cX2_plug 88 = .ok (.iload_n 2, 1) := by decide +kernel
theorem dX2_plug_89 : decode cX2_plug 89 = .ok (.putfield 64, 3) := by decide +kernel
theorem dX2_plug_92 : decode cX2_plug 92 = .ok (.iload_n 3, 1) := by decide +kernel
theorem dX2_plug_93 : decode cX2_plug 93 = .ok (.ireturn, 1) := by decide +kernel
set_option maxRecDepth 20000 in
theorem ggX2_unplug_X2_plugged : GoodIn wsX2_unplug wsX2_plugged := goodIn_ca (goodIn_r _ [5, 6, 7, 8, 9, 10, 11, 4, 12, 13, 48, 49, 50, 51, 52, 53, 54, 55, 56, 57, 58, 59, 60, 61, 62, 63, 64, 65, 66, 67, 68, 69, 70, 71, 72, 73, 74, 75, 76, 77, 78] (by decide +kernel) (by decide +kernel)) (goodIn_sub (fun _ h => List.mem_cons_of_mem _ (List.mem_append_right _ h)) (by decide +kernel))
set_option maxRecDepth 20000 in
theorem gX2_unplug_X2_plugged : GoodIn wsX2_unplug (wsV RX2 66 RX2 yX2_plugged wsX2_plugged) := goodIn_app (goodIn_of _ (by decide +kernel)) ggX2_unplug_X2_plugged
set_option maxRecDepth 20000 in
theorem ggX2_unplug_X1_clear : GoodIn wsX2_unplug wsX1_clear := goodIn_r _ [18, 19, 20, 21, 22, 23, 24, 25, 26, 27, 28, 29, 30, 31, 32, 33, 34, 35, 36, 37, 38, 39, 40, 41, 42, 43, 44, 45, 46, 47, 48, 49, 50, 51, 52, 53, 54, 55, 56, 57, 58, 59, 60, 61, 62, 79, 80, 81, 82, 83, 84, 85, 86, 87, 88, 89] (by decide +kernel) (by decide +kernel)
set_option maxRecDepth 20000 in
theorem gX2_unplug_X1_clear : GoodIn wsX2_unplug (wsV RX2 70 RX1 yX1_clear wsX1_clear) := goodIn_app (goodIn_of _ (by decide +kernel)) ggX2_unplug_X1_clear
theorem dX2_unplug_0 : decode cX2_unplug 0 = .ok (.aload_n 0, 1) := by decide +kernel
theorem dX2_unplug_1 : decode cX2_unplug 1 = .ok (.iload_n 1, 1) := by decide +kernel
theorem dX2_unplug_2 : decode cX2_unplug 2 = .ok (.invokevirtual 66, 3) := by decide +kernel
theorem dX2_unplug_5 : decode cX2_unplug 5 = .ok (.invokevirtual 70, 3) := by decide +kernel
theorem dX2_unplug_8 : decode cX2_unplug 8 = .ok (.return_, 1) := by decide +kernel
set_option maxRecDepth 20000 in
theorem ggX2_contract_X2_pluggedContainer : GoodIn wsX2_contract wsX2_pluggedContainer := goodIn_ca (goodIn_r _ [13, 14, 15, 16, 12, 17, 1, 2, 18, 19, 20, 21, 22, 23, 24, 25, 26, 27, 43, 44, 45, 46, 47, 48, 49, 50, 51, 52, 53, 54, 55, 56, 57, 58, 59, 60, 61, 62, 63, 64, 65, 66, 67, 68, 69, 70, 71, 72, 73] (by decide +kernel) (by decide +kernel)) (goodIn_sub (fun _ h => List.mem_cons_of_mem _ (List.mem_append_left _ (List.mem_append_right _ h))) (by decide +kernel))
set_option maxRecDepth 20000 in
theorem gX2_contract_X2_pluggedContainer : GoodIn wsX2_contract (wsV RX2 73 RX2 yX2_pluggedContainer wsX2_pluggedContainer) := goodIn_app (goodIn_of _ (by decide +kernel)) ggX2_contract_X2_pluggedContainer
set_option maxRecDepth 20000 in
theorem ggX2_contract_X2_contracted : GoodIn wsX2_contract wsX2_contracted := goodIn_r _ [31, 23, 27, 5, 6, 58, 59, 60, 61, 62, 63, 64, 65, 66, 67, 68, 69, 70, 71, 72, 73, 43, 44, 45, 46, 47, 48, 49, 50, 51, 52, 53, 54, 55, 56, 57, 32, 33, 34, 35, 36, 37, 38, 39, 40, 41, 42] (by decide +kernel) (by decide +kernel)
set_option maxRecDepth 20000 in
theorem gX2_contract_X2_contracted : GoodIn wsX2_contract (wsV RX2 81 RX2 yX2_contracted wsX2_contracted) := goodIn_app (goodIn_of _ (by decide +kernel)) ggX2_contract_X2_contracted
theorem dX2_contract_0 : decode cX2_contract 0 = .ok (.aload_n 0, 1) := by decide +kernel
theorem dX2_contract_1 : decode cX2_contract 1 = .ok (.iload_n 1, 1) := by decide +kernel
theorem dX2_contract_2 : decode cX2_contract 2 = .ok (.iload_n 2, 1) := by decide +kernel
theorem dX2_contract_3 : decode cX2_contract 3 = .ok (.invokevirtual 73, 3) := by decide +kernel
theorem dX2_contract_6 : decode cX2_contract 6 = .ok (.astore 7, 2) := by decide +kernel
theorem dX2_contract_8 : decode cX2_contract 8 = .ok (.iload_n 3, 1) := by decide +kernel
theorem dX2_contract_9 : decode cX2_contract 9 = .ok (.ifCond .lt 28, 3) := by decide +kernel
theorem dX2_contract_12 : decode cX2_contract 12 = .ok (.iload 4, 2) := by decide +kernel
theorem dX2_contract_14 : decode cX2_contract 14 = .ok (.ifCond .lt 23, 3) := by decide +kernel
theorem dX2_contract_17 : decode cX2_contract 17 = .ok (.iload 5, 2) := by decide +kernel
theorem dX2_contract_19 : decode cX2_contract 19 = .ok (.bipush 60, 2) := by decide +kernel
theorem dX2_contract_21 : decode cX2_contract 21 = .ok (.if_icmp .gt 16, 3) := by decide +kernel
theorem dX2_contract_24 : decode cX2_contract 24 = .ok (.iload_n 3, 1) := by decide +kernel
theorem dX2_contract_25 : decode cX2_contract 25 = .ok (.i2l, 1) := by decide +kernel
theorem dX2_contract_26 : decode cX2_contract 26 = .ok (.iload 4, 2) := by decide +kernel
theorem dX2_contract_28 : decode cX2_contract 28 = .ok (.i2l, 1) := by decide +kernel
theorem dX2_contract_29 : decode cX2_contract 29 = .ok (.ladd, 1) := by decide +kernel
theorem dX2_contract_30 : decode cX2_contract 30 = .ok (.iload 5, 2) := by decide +kernel
theorem dX2_contract_32 : decode cX2_contract 32 = .ok (.i2l, 1) := by decide +kernel
theorem dX2_contract_33 : decode cX2_contract 33 = .ok (.lcmp, 1) := by decide +kernel
theorem dX2_contract_34 : decode cX2_contract 34 = .ok (.ifCond .le 13, 3) := by decide +kernel
theorem dX2_contract_37 : decode cX2_contract 37 = .ok (.new 37, 3) := by decide +kernel
theorem dX2_contract_40 : decode cX2_contract 40 = .ok (.dup, 1) := by decide +kernel
theorem dX2_contract_41 : decode cX2_contract 41 = .ok (.ldc 77, 2) := by decide +kernel
theorem dX2_contract_43 : decode cX2_contract 43 = .ok (.invokespecial 41, 3) := by decide +kernel
theorem dX2_contract_46 : decode cX2_contract 46 = .ok (.athrow, 1) := by decide +kernel
theorem dX2_contract_47 : decode cX2_contract 47 = .ok (.iload 6, 2) := by decide +kernel
theorem dX2_contract_49 : decode cX2_contract 49 = .ok (.iconst 1, 1) := by decide +kernel
theorem dX2_contract_50 : decode cX2_contract 50 = .ok (.if_icmp .lt 10, 3) := by decide +kernel
theorem dX2_contract_53 : decode cX2_contract 53 = .ok (.iload 6, 2) := by decide +kernel
theorem dX2_contract_55 : decode cX2_contract 55 = .ok (.bipush 9, 2) := by decide +kernel
theorem dX2_contract_57 : decode cX2_contract 57 = .ok (.if_icmp .le 13, 3) := by decide +kernel
theorem dX2_contract_60 : decode cX2_contract 60 = .ok (.new 37, 3) := by decide +kernel
theorem dX2_contract_63 : decode cX2_contract 63 = .ok (.dup, 1) := by decide +kernel
theorem dX2_contract_64 : decode cX2_contract 64 = .ok (.ldc 79, 2) := by decide +kernel
theorem dX2_contract_66 : decode cX2_contract 66 = .ok (.invokespecial 41, 3) := by decide +kernel
theorem dX2_contract_69 : decode cX2_contract 69 = .ok (.athrow, 1) := by decide +kernel
theorem dX2_contract_70 : decode cX2_contract 70 = .ok (.aload_n 0, 1) := by decide +kernel
theorem dX2_contract_71 : decode cX2_contract 71 = .ok (.invokevirtual 81, 3) := by decide +kernel
theorem dX2_contract_74 : decode cX2_contract 74 = .ok (.aload 7, 2) := by decide +kernel
theorem dX2_contract_76 : decode cX2_contract 76 = .ok (.getfield 84, 3) := by decide +kernel
theorem dX2_contract_79 : decode cX2_contract 79 = .ok (.isub, 1) := by decide +kernel
theorem dX2_contract_80 : decode cX2_contract 80 = .ok (.aload 7, 2) := by decide +kernel
theorem dX2_contract_82 : decode cX2_contract 82 = .ok (.getfield 89, 3) := by decide +kernel
theorem dX2_contract_85 : decode cX2_contract 85 = .ok (.isub, 1) := by decide +kernel
theorem dX2_contract_86 : decode cX2_contract 86 = .ok (.iload_n 3, 1) := by decide +kernel
theorem dX2_contract_87 : decode cX2_contract 87 = .ok (.iadd, 1) := by decide +kernel
theorem dX2_contract_88 : decode cX2_contract 88 = .ok (.iload 4, 2) := by decide +kernel
theorem dX2_contract_90 : decode cX2_contract 90 = .ok (.iadd, 1) := by decide +kernel
theorem dX2_contract_91 : decode cX2_contract 91 = .ok (.bipush 55, 2) := by decide +kernel
theorem dX2_contract_93 : decode cX2_contract 93 = .ok (.if_icmp .le 13, 3) := by decide +kernel
theorem dX2_contract_96 : decode cX2_contract 96 = .ok (.new 53, 3) := by decide +kernel
theorem dX2_contract_99 : decode cX2_contract 99 = .ok (.dup, 1) := by decide +kernel
theorem dX2_contract_100 : decode cX2_contract 100 = .ok (.ldc 92, 2) := by decide +kernel
theorem dX2_contract_102 : decode cX2_contract 102 = .ok (.invokespecial 57, 3) := by decide +kernel
theorem dX2_contract_105 : decode cX2_contract 105 = .ok (.athrow, 1) := by decide +kernel
theorem dX2_contract_106 : decode cX2_contract 106 = .ok (.aload 7, 2) := by decide +kernel
theorem dX2_contract_108 : decode cX2_contract 108 = .ok (.iload_n 3, 1) := by decide +kernel
theorem dX2_contract_109 : decode cX2_contract 109 = .ok (.putfield 84, 3) := by decide +kernel
theorem dX2_contract_112 : decode cX2_contract 112 = .ok (.aload 7, 2) := by decide +kernel
theorem dX2_contract_114 : decode cX2_contract 114 = .ok (.iload 4, 2) := by decide +kernel
theorem dX2_contract_116 : decode cX2_contract 116 = .ok (.putfield 89, 3) := by decide +kernel
theorem dX2_contract_119 : decode cX2_contract 119 = .ok (.aload 7, 2) := by decide +kernel
theorem dX2_contract_121 : decode cX2_contract 121 = .ok (.iload 5, 2) := by decide +kernel
theorem dX2_contract_123 : decode cX2_contract 123 = .ok (.putfield 94, 3) := by decide +kernel
theorem dX2_contract_126 : decode cX2_contract 126 = .ok (.aload 7, 2) := by decide +kernel
theorem dX2_contract_128 : decode cX2_contract 128 = .ok (.iload 6, 2) := by decide +kernel
theorem dX2_contract_130 : decode cX2_contract 130 = .ok (.putfield 97, 3) := by decide +kernel
theorem dX2_contract_133 : decode cX2_contract 133 = .ok (.return_, 1) := by decide +kernel
set_option maxRecDepth 20000 in
theorem ggX2_drift_X2_plugged : GoodIn wsX2_drift wsX2_plugged := goodIn_ca (goodIn_r _ [10, 1, 2, 4, 11, 12, 13, 9, 14, 15, 19, 20, 21, 22, 23, 24, 25, 26, 27, 28, 29, 30, 31, 32, 33, 34, 35, 36, 37, 38, 39, 40, 41, 42, 43, 44, 45, 46, 47, 48, 49] (by decide +kernel) (by decide +kernel)) (goodIn_sub (fun _ h => List.mem_cons_of_mem _ (List.mem_append_right _ h)) (by decide +kernel))
set_option maxRecDepth 20000 in
theorem gX2_drift_X2_plugged : GoodIn wsX2_drift (wsV RX2 66 RX2 yX2_plugged wsX2_plugged) := goodIn_app (goodIn_of _ (by decide +kernel)) ggX2_drift_X2_plugged
set_option maxRecDepth 20000 in
theorem ggX2_drift_X2_isWay : GoodIn wsX2_drift wsX2_isWay := goodIn_r _ [18] (by decide +kernel) (by decide +kernel)
set_option maxRecDepth 20000 in
theorem gX2_drift_X2_isWay : GoodIn wsX2_drift (va_wsS RX2 44 yX2_isWay wsX2_isWay) := goodIn_app (goodIn_of _ (by decide +kernel)) ggX2_drift_X2_isWay
theorem dX2_drift_0 : decode cX2_drift 0 = .ok (.aload_n 0, 1) := by decide +kernel
theorem dX2_drift_1 : decode cX2_drift 1 = .ok (.iload_n 1, 1) := by decide +kernel
theorem dX2_drift_2 : decode cX2_drift 2 = .ok (.invokevirtual 66, 3) := by decide +kernel
theorem dX2_drift_5 : decode cX2_drift 5 = .ok (.astore_n 3, 1) := by decide +kernel
theorem dX2_drift_6 : decode cX2_drift 6 = .ok (.iload_n 2, 1) := by decide +kernel
theorem dX2_drift_7 : decode cX2_drift 7 = .ok (.bipush (-2), 2) := by decide +kernel
theorem dX2_drift_9 : decode cX2_drift 9 = .ok (.if_icmp .lt 20, 3) := by decide +kernel
theorem dX2_drift_12 : decode cX2_drift 12 = .ok (.iload_n 2, 1) := by decide +kernel
theorem dX2_drift_13 : decode cX2_drift 13 = .ok (.iconst 2, 1) := by decide +kernel
theorem dX2_drift_14 : decode cX2_drift 14 = .ok (.if_icmp .gt 15, 3) := by decide +kernel
theorem dX2_drift_17 : decode cX2_drift 17 = .ok (.aload_n 3, 1) := by decide +kernel
theorem dX2_drift_18 : decode cX2_drift 18 = .ok (.getfield 64, 3) := by decide +kernel
theorem dX2_drift_21 : decode cX2_drift 21 = .ok (.iload_n 2, 1) := by decide +kernel
theorem dX2_drift_22 : decode cX2_drift 22 = .ok (.iadd, 1) := by decide +kernel
theorem dX2_drift_23 : decode cX2_drift 23 = .ok (.invokestatic 44, 3) := by decide +kernel
theorem dX2_drift_26 : decode cX2_drift 26 = .ok (.ifCond .ne 13, 3) := by decide +kernel
theorem dX2_drift_29 : decode cX2_drift 29 = .ok (.new 37, 3) := by decide +kernel
theorem dX2_drift_32 : decode cX2_drift 32 = .ok (.dup, 1) := by decide +kernel
theorem dX2_drift_33 : decode cX2_drift 33 = .ok (.ldc 99, 2) := by decide +kernel
theorem dX2_drift_35 : decode cX2_drift 35 = .ok (.invokespecial 41, 3) := by decide +kernel
theorem dX2_drift_38 : decode cX2_drift 38 = .ok (.athrow, 1) := by decide +kernel
theorem dX2_drift_39 : decode cX2_drift 39 = .ok (.aload_n 3, 1) := by decide +kernel
theorem dX2_drift_40 : decode cX2_drift 40 = .ok (.dup, 1) := by decide +kernel
theorem dX2_drift_41 : decode cX2_drift 41 = .ok (.getfield 64, 3) := by decide +kernel
theorem dX2_drift_44 : decode cX2_drift 44 = .ok (.iload_n 2, 1) := by decide +kernel
theorem dX2_drift_45 : decode cX2_drift 45 = .ok (.iadd, 1) := by decide +kernel
theorem dX2_drift_46 : decode cX2_drift 46 = .ok (.putfield 64, 3) := by decide +kernel
theorem dX2_drift_49 : decode cX2_drift 49 = .ok (.aload_n 3, 1) := by decide +kernel
theorem dX2_drift_50 : decode cX2_drift 50 = .ok (.getfield 58, 3) := by decide +kernel
theorem dX2_drift_53 : decode cX2_drift 53 = .ok (.iconst 2, 1) := by decide +kernel
theorem dX2_drift_54 : decode cX2_drift 54 = .ok (.if_icmp .ne 13, 3) := by decide +kernel
theorem dX2_drift_57 : decode cX2_drift 57 = .ok (.aload_n 3, 1) := by decide +kernel
theorem dX2_drift_58 : decode cX2_drift 58 = .ok (.dup, 1) := by decide +kernel
theorem dX2_drift_59 : decode cX2_drift 59 = .ok (.getfield 101, 3) := by decide +kernel
theorem dX2_drift_62 : decode cX2_drift 62 = .ok (.iload_n 2, 1) := by decide +kernel
theorem dX2_drift_63 : decode cX2_drift 63 = .ok (.iadd, 1) := by decide +kernel
theorem dX2_drift_64 : decode cX2_drift 64 = .ok (.putfield 101, 3) := by decide +kernel
theorem dX2_drift_67 : decode cX2_drift 67 = .ok (.return_, 1) := by decide +kernel
set_option maxRecDepth 20000 in
theorem ggX2_send_X2_pluggedContainer : GoodIn wsX2_send wsX2_pluggedContainer := goodIn_ca (goodIn_r _ [11, 12, 13, 14, 10, 15, 1, 2, 16, 17, 18, 19, 20, 21, 22, 23, 24, 25, 61, 62, 63, 64, 65, 66, 67, 68, 69, 70, 71, 72, 73, 74, 75, 45, 46, 47, 48, 49, 50, 51, 52, 53, 54, 55, 56, 57, 58, 59, 60] (by decide +kernel) (by decide +kernel)) (goodIn_sub (fun _ h => List.mem_cons_of_mem _ (List.mem_append_left _ (List.mem_append_right _ h))) (by decide +kernel))
set_option maxRecDepth 20000 in
theorem gX2_send_X2_pluggedContainer : GoodIn wsX2_send (wsV RX2 73 RX2 yX2_pluggedContainer wsX2_pluggedContainer) := goodIn_app (goodIn_of _ (by decide +kernel)) ggX2_send_X2_pluggedContainer
set_option maxRecDepth 20000 in
theorem ggX2_send_X0_append : GoodIn wsX2_send wsX0_append := goodIn_r _ [30, 31, 32, 33, 34, 35, 36, 37, 38, 39, 40, 41, 42, 43, 44] (by decide +kernel) (by decide +kernel)
set_option maxRecDepth 20000 in
theorem gX2_send_X0_append : GoodIn wsX2_send (wsV RX2 114 RX0 yX0_append wsX0_append) := goodIn_app (goodIn_of _ (by decide +kernel)) ggX2_send_X0_append
theorem dX2_send_0 : decode cX2_send 0 = .ok (.aload_n 0, 1) := by decide +kernel
theorem dX2_send_1 : decode cX2_send 1 = .ok (.iload_n 1, 1) := by decide +kernel
theorem dX2_send_2 : decode cX2_send 2 = .ok (.iload_n 2, 1) := by decide +kernel
theorem dX2_send_3 : decode cX2_send 3 = .ok (.invokevirtual 73, 3) := by decide +kernel
theorem dX2_send_6 : decode cX2_send 6 = .ok (.astore 4, 2) := by decide +kernel
theorem dX2_send_8 : decode cX2_send 8 = .ok (.iload_n 3, 1) := by decide +kernel
theorem dX2_send_9 : decode cX2_send 9 = .ok (.iconst 1, 1) := by decide +kernel
theorem dX2_send_10 : decode cX2_send 10 = .ok (.if_icmp .lt 9, 3) := by decide +kernel
theorem dX2_send_13 : decode cX2_send 13 = .ok (.iload_n 3, 1) := by decide +kernel
theorem dX2_send_14 : decode cX2_send 14 = .ok (.bipush 20, 2) := by decide +kernel
theorem dX2_send_16 : decode cX2_send 16 = .ok (.if_icmp .le 13, 3) := by decide +kernel
theorem dX2_send_19 : decode cX2_send 19 = .ok (.new 37, 3) := by decide +kernel
theorem dX2_send_22 : decode cX2_send 22 = .ok (.dup, 1) := by decide +kernel
theorem dX2_send_23 : decode cX2_send 23 = .ok (.ldc 104, 2) := by decide +kernel
theorem dX2_send_25 : decode cX2_send 25 = .ok (.invokespecial 41, 3) := by decide +kernel
theorem dX2_send_28 : decode cX2_send 28 = .ok (.athrow, 1) := by decide +kernel
theorem dX2_send_29 : decode cX2_send 29 = .ok (.aload 4, 2) := by decide +kernel
theorem dX2_send_31 : decode cX2_send 31 = .ok (.getfield 106, 3) := by decide +kernel
theorem dX2_send_34 : decode cX2_send 34 = .ok (.bipush 8, 2) := by decide +kernel
theorem dX2_send_36 : decode cX2_send 36 = .ok (.if_icmp .eq 12, 3) := by decide +kernel
theorem dX2_send_39 : decode cX2_send 39 = .ok (.aload_n 0, 1) := by decide +kernel
theorem dX2_send_40 : decode cX2_send 40 = .ok (.getfield 109, 3) := by decide +kernel
theorem dX2_send_43 : decode cX2_send 43 = .ok (.bipush 100, 2) := by decide +kernel
theorem dX2_send_45 : decode cX2_send 45 = .ok (.if_icmp .ne 13, 3) := by decide +kernel
theorem dX2_send_48 : decode cX2_send 48 = .ok (.new 53, 3) := by decide +kernel
theorem dX2_send_51 : decode cX2_send 51 = .ok (.dup, 1) := by decide +kernel
theorem dX2_send_52 : decode cX2_send 52 = .ok (.ldc 112, 2) := by decide +kernel
theorem dX2_send_54 : decode cX2_send 54 = .ok (.invokespecial 57, 3) := by decide +kernel
theorem dX2_send_57 : decode cX2_send 57 = .ok (.athrow, 1) := by decide +kernel
theorem dX2_send_58 : decode cX2_send 58 = .ok (.aload 4, 2) := by decide +kernel
theorem dX2_send_60 : decode cX2_send 60 = .ok (.aload_n 0, 1) := by decide +kernel
theorem dX2_send_61 : decode cX2_send 61 = .ok (.getfield 109, 3) := by decide +kernel
theorem dX2_send_64 : decode cX2_send 64 = .ok (.iload_n 3, 1) := by decide +kernel
theorem dX2_send_65 : decode cX2_send 65 = .ok (.invokevirtual 114, 3) := by decide +kernel
theorem dX2_send_68 : decode cX2_send 68 = .ok (.aload_n 0, 1) := by decide +kernel
theorem dX2_send_69 : decode cX2_send 69 = .ok (.dup, 1) := by decide +kernel
theorem dX2_send_70 : decode cX2_send 70 = .ok (.getfield 109, 3) := by decide +kernel
theorem dX2_send_73 : decode cX2_send 73 = .ok (.dup_x1, 1) := by decide +kernel
theorem dX2_send_74 : decode cX2_send 74 = .ok (.iconst 1, 1) := by decide +kernel
theorem dX2_send_75 : decode cX2_send 75 = .ok (.iadd, 1) := by decide +kernel
theorem dX2_send_76 : decode cX2_send 76 = .ok (.putfield 109, 3) := by decide +kernel
theorem dX2_send_79 : decode cX2_send 79 = .ok (.ireturn, 1) := by decide +kernel
set_option maxRecDepth 20000 in
theorem ggX2_key_X2_plugged : GoodIn wsX2_key wsX2_plugged := goodIn_ca (goodIn_r _ [11, 1, 2, 12, 13, 14, 15, 10, 16, 17, 18, 19, 20, 21, 22, 23, 24, 25, 26, 27, 28, 29, 30, 31, 32, 33, 34, 35, 36, 37, 38, 39, 40, 41, 42, 43, 44, 45, 46, 47, 48] (by decide +kernel) (by decide +kernel)) (goodIn_sub (fun _ h => List.mem_cons_of_mem _ (List.mem_append_left _ (List.mem_append_right _ h))) (by decide +kernel))
set_option maxRecDepth 20000 in
theorem gX2_key_X2_plugged : GoodIn wsX2_key (wsV RX2 66 RX2 yX2_plugged wsX2_plugged) := goodIn_app (goodIn_of _ (by decide +kernel)) ggX2_key_X2_plugged
theorem dX2_key_0 : decode cX2_key 0 = .ok (.aload_n 0, 1) := by decide +kernel
theorem dX2_key_1 : decode cX2_key 1 = .ok (.iload_n 1, 1) := by decide +kernel
theorem dX2_key_2 : decode cX2_key 2 = .ok (.invokevirtual 66, 3) := by decide +kernel
theorem dX2_key_5 : decode cX2_key 5 = .ok (.astore_n 3, 1) := by decide +kernel
theorem dX2_key_6 : decode cX2_key 6 = .ok (.iload_n 2, 1) := by decide +kernel
theorem dX2_key_7 : decode cX2_key 7 = .ok (.ifCond .lt 9, 3) := by decide +kernel
theorem dX2_key_10 : decode cX2_key 10 = .ok (.iload_n 2, 1) := by decide +kernel
theorem dX2_key_11 : decode cX2_key 11 = .ok (.bipush 99, 2) := by decide +kernel
theorem dX2_key_13 : decode cX2_key 13 = .ok (.if_icmp .le 13, 3) := by decide +kernel
theorem dX2_key_16 : decode cX2_key 16 = .ok (.new 37, 3) := by decide +kernel
theorem dX2_key_19 : decode cX2_key 19 = .ok (.dup, 1) := by decide +kernel
theorem dX2_key_20 : decode cX2_key 20 = .ok (.ldc 118, 2) := by decide +kernel
theorem dX2_key_22 : decode cX2_key 22 = .ok (.invokespecial 41, 3) := by decide +kernel
theorem dX2_key_25 : decode cX2_key 25 = .ok (.athrow, 1) := by decide +kernel
theorem dX2_key_26 : decode cX2_key 26 = .ok (.aload_n 3, 1) := by decide +kernel
theorem dX2_key_27 : decode cX2_key 27 = .ok (.getfield 120, 3) := by decide +kernel
theorem dX2_key_30 : decode cX2_key 30 = .ok (.ifCond .eq 13, 3) := by decide +kernel
theorem dX2_key_33 : decode cX2_key 33 = .ok (.new 53, 3) := by decide +kernel
theorem dX2_key_36 : decode cX2_key 36 = .ok (.dup, 1) := by decide +kernel
theorem dX2_key_37 : decode cX2_key 37 = .ok (.ldc 124, 2) := by decide +kernel
theorem dX2_key_39 : decode cX2_key 39 = .ok (.invokespecial 57, 3) := by decide +kernel
theorem dX2_key_42 : decode cX2_key 42 = .ok (.athrow, 1) := by decide +kernel
theorem dX2_key_43 : decode cX2_key 43 = .ok (.aload_n 3, 1) := by decide +kernel
theorem dX2_key_44 : decode cX2_key 44 = .ok (.iconst 1, 1) := by decide +kernel
theorem dX2_key_45 : decode cX2_key 45 = .ok (.putfield 120, 3) := by decide +kernel
theorem dX2_key_48 : decode cX2_key 48 = .ok (.aload_n 3, 1) := by decide +kernel
theorem dX2_key_49 : decode cX2_key 49 = .ok (.iload_n 2, 1) := by decide +kernel
theorem dX2_key_50 : decode cX2_key 50 = .ok (.putfield 126, 3) := by decide +kernel
theorem dX2_key_53 : decode cX2_key 53 = .ok (.return_, 1) := by decide +kernel
set_option maxRecDepth 20000 in
theorem ggX2_down_X2_plugged : GoodIn wsX2_down wsX2_plugged := goodIn_ca (goodIn_r _ [7, 8, 9, 10, 11, 12, 13, 6, 14, 15, 16, 17, 18, 19, 20, 21, 22, 23, 24, 25, 26, 27, 28, 29, 30, 31, 32, 33, 34, 35, 36, 37, 38, 39, 40, 41, 42, 43, 44, 45, 46] (by decide +kernel) (by decide +kernel)) (goodIn_sub (fun _ h => List.mem_cons_of_mem _ (List.mem_append_right _ h)) (by decide +kernel))
set_option maxRecDepth 20000 in
theorem gX2_down_X2_plugged : GoodIn wsX2_down (wsV RX2 66 RX2 yX2_plugged wsX2_plugged) := goodIn_app (goodIn_of _ (by decide +kernel)) ggX2_down_X2_plugged
theorem dX2_down_0 : decode cX2_down 0 = .ok (.aload_n 0, 1) := by decide +kernel
theorem dX2_down_1 : decode cX2_down 1 = .ok (.iload_n 1, 1) := by decide +kernel
theorem dX2_down_2 : decode cX2_down 2 = .ok (.invokevirtual 66, 3) := by decide +kernel
theorem dX2_down_5 : decode cX2_down 5 = .ok (.astore_n 3, 1) := by decide +kernel
theorem dX2_down_6 : decode cX2_down 6 = .ok (.aload_n 3, 1) := by decide +kernel
theorem dX2_down_7 : decode cX2_down 7 = .ok (.iconst 1, 1) := by decide +kernel
theorem dX2_down_8 : decode cX2_down 8 = .ok (.putfield 129, 3) := by decide +kernel
theorem dX2_down_11 : decode cX2_down 11 = .ok (.aload_n 3, 1) := by decide +kernel
theorem dX2_down_12 : decode cX2_down 12 = .ok (.iload_n 2, 1) := by decide +kernel
theorem dX2_down_13 : decode cX2_down 13 = .ok (.putfield 132, 3) := by decide +kernel
theorem dX2_down_16 : decode cX2_down 16 = .ok (.return_, 1) := by decide +kernel
set_option maxRecDepth 20000 in
theorem ggX2_spoil_X2_plugged : GoodIn wsX2_spoil wsX2_plugged := goodIn_ca (goodIn_r _ [6, 7, 8, 9, 10, 11, 12, 5, 13, 14, 15, 16, 17, 18, 19, 20, 21, 22, 23, 24, 25, 26, 27, 28, 29, 30, 31, 32, 33, 34, 35, 36, 37, 38, 39, 40, 41, 42, 43, 44, 45] (by decide +kernel) (by decide +kernel)) (goodIn_sub (fun _ h => List.mem_cons_of_mem _ (List.mem_append_right _ h)) (by decide +kernel))
set_option maxRecDepth 20000 in
theorem gX2_spoil_X2_plugged : GoodIn wsX2_spoil (wsV RX2 66 RX2 yX2_plugged wsX2_plugged) := goodIn_app (goodIn_of _ (by decide +kernel)) ggX2_spoil_X2_plugged
theorem dX2_spoil_0 : decode cX2_spoil 0 = .ok (.aload_n 0, 1) := by decide +kernel
theorem dX2_spoil_1 : decode cX2_spoil 1 = .ok (.iload_n 1, 1) := by decide +kernel
theorem dX2_spoil_2 : decode cX2_spoil 2 = .ok (.invokevirtual 66, 3) := by decide +kernel
theorem dX2_spoil_5 : decode cX2_spoil 5 = .ok (.iconst 1, 1) := by decide +kernel
theorem dX2_spoil_6 : decode cX2_spoil 6 = .ok (.putfield 135, 3) := by decide +kernel
theorem dX2_spoil_9 : decode cX2_spoil 9 = .ok (.return_, 1) := by decide +kernel
theorem dX2_feeder_0 : decode cX2_feeder 0 = .ok (.iload_n 1, 1) := by decide +kernel
theorem dX2_feeder_1 : decode cX2_feeder 1 = .ok (.ifCond .lt 8, 3) := by decide +kernel
theorem dX2_feeder_4 : decode cX2_feeder 4 = .ok (.iload_n 1, 1) := by decide +kernel
theorem dX2_feeder_5 : decode cX2_feeder 5 = .ok (.iconst 2, 1) := by decide +kernel
theorem dX2_feeder_6 : decode cX2_feeder 6 = .ok (.if_icmp .lt 13, 3) := by decide +kernel
theorem dX2_feeder_9 : decode cX2_feeder 9 = .ok (.new 37, 3) := by decide +kernel
theorem dX2_feeder_12 : decode cX2_feeder 12 = .ok (.dup, 1) := by decide +kernel
theorem dX2_feeder_13 : decode cX2_feeder 13 = .ok (.ldc 138, 2) := by decide +kernel
theorem dX2_feeder_15 : decode cX2_feeder 15 = .ok (.invokespecial 41, 3) := by decide +kernel
theorem dX2_feeder_18 : decode cX2_feeder 18 = .ok (.athrow, 1) := by decide +kernel
theorem dX2_feeder_19 : decode cX2_feeder 19 = .ok (.aload_n 0, 1) := by decide +kernel
theorem dX2_feeder_20 : decode cX2_feeder 20 = .ok (.getfield 15, 3) := by decide +kernel
theorem dX2_feeder_23 : decode cX2_feeder 23 = .ok (.iload_n 1, 1) := by decide +kernel
theorem dX2_feeder_24 : decode cX2_feeder 24 = .ok (.iload_n 2, 1) := by decide +kernel
theorem dX2_feeder_25 : decode cX2_feeder 25 = .ok (.bastore, 1) := by decide +kernel
theorem dX2_feeder_26 : decode cX2_feeder 26 = .ok (.return_, 1) := by decide +kernel
theorem dX2_discover_0 : decode cX2_discover 0 = .ok (.aload_n 0, 1) := by decide +kernel
theorem dX2_discover_1 : decode cX2_discover 1 = .ok (.iconst 1, 1) := by decide +kernel
theorem dX2_discover_2 : decode cX2_discover 2 = .ok (.putfield 140, 3) := by decide +kernel
theorem dX2_discover_5 : decode cX2_discover 5 = .ok (.return_, 1) := by decide +kernel
set_option maxRecDepth 20000 in
theorem ggX2_frame_X2_passDark : GoodIn wsX2_frame wsX2_passDark := goodIn_r _ [11, 4, 3, 2, 163, 164, 165, 166, 167, 168, 169, 170, 171, 172, 173, 174, 175, 176, 177, 178] (by decide +kernel) (by decide +kernel)
set_option maxRecDepth 20000 in
theorem gX2_frame_X2_passDark : GoodIn wsX2_frame (wsV RX2 149 RX2 yX2_passDark wsX2_passDark) := goodIn_app (goodIn_of _ (by decide +kernel)) ggX2_frame_X2_passDark
set_option maxRecDepth 20000 in
theorem ggX2_frame_X2_passQuiet : GoodIn wsX2_frame wsX2_passQuiet := goodIn_r _ [15, 16, 17, 18, 19, 20, 21, 22, 23, 24, 25, 26, 27, 10, 28, 29, 30, 163, 164, 165, 166, 167, 168, 169, 170, 171, 172, 173, 174, 175, 176, 177, 178, 179, 180, 181, 182, 183, 184, 185, 186, 187, 188, 189, 190, 191, 192, 193] (by decide +kernel) (by decide +kernel)
set_option maxRecDepth 20000 in
theorem gX2_frame_X2_passQuiet : GoodIn wsX2_frame (wsV RX2 155 RX2 yX2_passQuiet wsX2_passQuiet) := goodIn_app (goodIn_of _ (by decide +kernel)) ggX2_frame_X2_passQuiet
set_option maxRecDepth 20000 in
theorem ggX2_frame_X2_watchErrors : GoodIn wsX2_frame wsX2_watchErrors := goodIn_r _ [34, 17, 35, 36, 37, 38, 39, 18, 19, 40, 163, 164, 165, 166, 167, 168, 169, 170, 171, 172, 173, 174, 175, 176, 177, 178, 179, 180, 181, 182, 183, 184, 185, 186, 187, 188, 189, 190, 191, 192, 193] (by decide +kernel) (by decide +kernel)
set_option maxRecDepth 20000 in
theorem gX2_frame_X2_watchErrors : GoodIn wsX2_frame (wsV RX2 161 RX2 yX2_watchErrors wsX2_watchErrors) := goodIn_app (goodIn_of _ (by decide +kernel)) ggX2_frame_X2_watchErrors
set_option maxRecDepth 20000 in
theorem ggX2_frame_X2_makeMap : GoodIn wsX2_frame wsX2_makeMap := goodIn_r _ [44, 17, 18, 45, 46, 47, 48, 49, 50, 51, 52, 53, 54, 55, 56, 57, 58, 38, 59, 60, 61, 62, 63, 64, 65, 66, 10, 67, 68, 69, 70, 71, 72, 73, 74, 75, 76, 77, 78, 79, 80, 81, 82, 163, 164, 165, 166, 167, 168, 169, 170, 171, 172, 173, 174, 175, 176, 177, 178, 179, 180, 181, 182, 183, 184, 185, 186, 187, 188, 189, 190, 191, 192, 193, 194, 195, 196, 197, 198, 199, 200, 201, 202, 203, 204] (by decide +kernel) (by decide +kernel)
set_option maxRecDepth 20000 in
theorem gX2_frame_X2_makeMap : GoodIn wsX2_frame (wsV RX2 164 RX2 yX2_makeMap wsX2_makeMap) := goodIn_app (goodIn_of _ (by decide +kernel)) ggX2_frame_X2_makeMap
set_option maxRecDepth 20000 in
theorem ggX2_frame_X2_layBursts : GoodIn wsX2_frame wsX2_layBursts := goodIn_r _ [86, 17, 18, 87, 35, 88, 89, 90, 91, 23, 92, 93, 94, 163, 164, 165, 166, 167, 168, 169, 170, 171, 172, 173, 174, 175, 176, 177, 178, 179, 180, 181, 182, 183, 184, 185, 186, 187, 188, 189, 190, 191, 192, 193, 194, 195, 196, 197, 198, 199, 200, 201, 202, 203, 204] (by decide +kernel) (by decide +kernel)
set_option maxRecDepth 20000 in
theorem gX2_frame_X2_layBursts : GoodIn wsX2_frame (wsV RX2 167 RX2 yX2_layBursts wsX2_layBursts) := goodIn_app (goodIn_of _ (by decide +kernel)) ggX2_frame_X2_layBursts
set_option maxRecDepth 20000 in
theorem ggX2_frame_X2_countMeetings : GoodIn wsX2_frame wsX2_countMeetings := goodIn_r _ [98, 87, 99, 58, 38, 59, 88, 100, 61, 62, 101, 163, 164, 165, 166, 167, 168, 169, 170, 171, 172, 173, 174, 175, 176, 177, 178] (by decide +kernel) (by decide +kernel)
set_option maxRecDepth 20000 in
theorem gX2_frame_X2_countMeetings : GoodIn wsX2_frame (wsV RX2 170 RX2 yX2_countMeetings wsX2_countMeetings) := goodIn_app (goodIn_of _ (by decide +kernel)) ggX2_frame_X2_countMeetings
set_option maxRecDepth 20000 in
theorem ggX2_frame_X2_sendBlocks : GoodIn wsX2_frame wsX2_sendBlocks := goodIn_r _ [105, 17, 18, 45, 106, 107, 108, 109, 110, 10, 111, 46, 112, 113, 114, 115, 116, 117, 118, 119, 51, 120, 121, 122, 123, 124, 125, 126, 6, 127, 1, 128, 129, 130, 131, 132, 133, 134, 135, 136, 137, 163, 164, 165, 166, 167, 168, 169, 170, 171, 172, 173, 174, 175, 176, 177, 178, 179, 180, 181, 182, 183, 184, 185, 186, 187, 188, 189, 190, 191, 192, 193, 194, 195, 196, 197, 198, 199, 200, 201, 202, 203, 204] (by decide +kernel) (by decide +kernel)
set_option maxRecDepth 20000 in
theorem gX2_frame_X2_sendBlocks : GoodIn wsX2_frame (wsV RX2 173 RX2 yX2_sendBlocks wsX2_sendBlocks) := goodIn_app (goodIn_of _ (by decide +kernel)) ggX2_frame_X2_sendBlocks
set_option maxRecDepth 20000 in
theorem ggX2_frame_X2_tellDown : GoodIn wsX2_frame wsX2_tellDown := goodIn_r _ [141, 17, 18, 1, 142, 143, 144, 23, 145, 146, 147, 148, 149, 150, 27, 10, 28, 29, 30, 151, 152, 153, 154, 155, 156, 157, 158, 163, 164, 165, 166, 167, 168, 169, 170, 171, 172, 173, 174, 175, 176, 177, 178, 179, 180, 181, 182, 183, 184, 185, 186, 187, 188, 189, 190, 191, 192, 193] (by decide +kernel) (by decide +kernel)
set_option maxRecDepth 20000 in
theorem gX2_frame_X2_tellDown : GoodIn wsX2_frame (wsV RX2 176 RX2 yX2_tellDown wsX2_tellDown) := goodIn_app (goodIn_of _ (by decide +kernel)) ggX2_frame_X2_tellDown
set_option maxRecDepth 20000 in
theorem ggX2_frame_X2_clearSpoilt : GoodIn wsX2_frame wsX2_clearSpoilt := goodIn_r _ [162, 17, 106, 163, 164, 165, 166, 167, 168, 169, 170, 171, 172, 173, 174, 175, 176, 177, 178, 179, 180, 181, 182, 183, 184, 185, 186, 187, 188, 189, 190, 191, 192, 193] (by decide +kernel) (by decide +kernel)
set_option maxRecDepth 20000 in
theorem gX2_frame_X2_clearSpoilt : GoodIn wsX2_frame (wsV RX2 179 RX2 yX2_clearSpoilt wsX2_clearSpoilt) := goodIn_app (goodIn_of _ (by decide +kernel)) ggX2_frame_X2_clearSpoilt
theorem dX2_frame_0 : decode cX2_frame 0 = .ok (.aload_n 0, 1) := by decide +kernel
theorem dX2_frame_1 : decode cX2_frame 1 = .ok (.dup, 1) := by decide +kernel
theorem dX2_frame_2 : decode cX2_frame 2 = .ok (.getfield 143, 3) := by decide +kernel
theorem dX2_frame_5 : decode cX2_frame 5 = .ok (.iconst 1, 1) := by decide +kernel
theorem dX2_frame_6 : decode cX2_frame 6 = .ok (.iadd, 1) := by decide +kernel
theorem dX2_frame_7 : decode cX2_frame 7 = .ok (.putfield 143, 3) := by decide +kernel
theorem dX2_frame_10 : decode cX2_frame 10 = .ok (.aload_n 0, 1) := by decide +kernel
theorem dX2_frame_11 : decode cX2_frame 11 = .ok (.getfield 15, 3) := by decide +kernel
theorem dX2_frame_14 : decode cX2_frame 14 = .ok (.aload_n 0, 1) := by decide +kernel
theorem dX2_frame_15 : decode cX2_frame 15 = .ok (.getfield 146, 3) := by decide +kernel
theorem dX2_frame_18 : decode cX2_frame 18 = .ok (.baload, 1) := by decide +kernel
theorem dX2_frame_19 : decode cX2_frame 19 = .ok (.ifCond .eq 9, 3) := by decide +kernel
theorem dX2_frame_22 : decode cX2_frame 22 = .ok (.aload_n 0, 1) := by decide +kernel
theorem dX2_frame_23 : decode cX2_frame 23 = .ok (.invokevirtual 149, 3) := by decide +kernel
theorem dX2_frame_26 : decode cX2_frame 26 = .ok (.iconst (-1), 1) := by decide +kernel
theorem dX2_frame_27 : decode cX2_frame 27 = .ok (.ireturn, 1) := by decide +kernel
theorem dX2_frame_28 : decode cX2_frame 28 = .ok (.aload_n 0, 1) := by decide +kernel
theorem dX2_frame_29 : decode cX2_frame 29 = .ok (.iconst 0, 1) := by decide +kernel
theorem dX2_frame_30 : decode cX2_frame 30 = .ok (.putfield 152, 3) := by decide +kernel
theorem dX2_frame_33 : decode cX2_frame 33 = .ok (.aload_n 0, 1) := by decide +kernel
theorem dX2_frame_34 : decode cX2_frame 34 = .ok (.getfield 140, 3) := by decide +kernel
theorem dX2_frame_37 : decode cX2_frame 37 = .ok (.ifCond .eq 15, 3) := by decide +kernel
theorem dX2_frame_40 : decode cX2_frame 40 = .ok (.aload_n 0, 1) := by decide +kernel
theorem dX2_frame_41 : decode cX2_frame 41 = .ok (.iconst 0, 1) := by decide +kernel
theorem dX2_frame_42 : decode cX2_frame 42 = .ok (.putfield 140, 3) := by decide +kernel
theorem dX2_frame_45 : decode cX2_frame 45 = .ok (.aload_n 0, 1) := by decide +kernel
theorem dX2_frame_46 : decode cX2_frame 46 = .ok (.invokevirtual 155, 3) := by decide +kernel
theorem dX2_frame_49 : decode cX2_frame 49 = .ok (.bipush (-2), 2) := by decide +kernel
theorem dX2_frame_51 : decode cX2_frame 51 = .ok (.ireturn, 1) := by decide +kernel
theorem dX2_frame_52 : decode cX2_frame 52 = .ok (.aload_n 0, 1) := by decide +kernel
theorem dX2_frame_53 : decode cX2_frame 53 = .ok (.getfield 158, 3) := by decide +kernel
theorem dX2_frame_56 : decode cX2_frame 56 = .ok (.istore_n 1, 1) := by decide +kernel
theorem dX2_frame_57 : decode cX2_frame 57 = .ok (.aload_n 0, 1) := by decide +kernel
theorem dX2_frame_58 : decode cX2_frame 58 = .ok (.invokevirtual 161, 3) := by decide +kernel
theorem dX2_frame_61 : decode cX2_frame 61 = .ok (.aload_n 0, 1) := by decide +kernel
theorem dX2_frame_62 : decode cX2_frame 62 = .ok (.invokevirtual 164, 3) := by decide +kernel
theorem dX2_frame_65 : decode cX2_frame 65 = .ok (.aload_n 0, 1) := by decide +kernel
theorem dX2_frame_66 : decode cX2_frame 66 = .ok (.invokevirtual 167, 3) := by decide +kernel
theorem dX2_frame_69 : decode cX2_frame 69 = .ok (.aload_n 0, 1) := by decide +kernel
theorem dX2_frame_70 : decode cX2_frame 70 = .ok (.invokevirtual 170, 3) := by decide +kernel
theorem dX2_frame_73 : decode cX2_frame 73 = .ok (.aload_n 0, 1) := by decide +kernel
theorem dX2_frame_74 : decode cX2_frame 74 = .ok (.invokevirtual 173, 3) := by decide +kernel
theorem dX2_frame_77 : decode cX2_frame 77 = .ok (.aload_n 0, 1) := by decide +kernel
theorem dX2_frame_78 : decode cX2_frame 78 = .ok (.invokevirtual 176, 3) := by decide +kernel
theorem dX2_frame_81 : decode cX2_frame 81 = .ok (.aload_n 0, 1) := by decide +kernel
theorem dX2_frame_82 : decode cX2_frame 82 = .ok (.invokevirtual 179, 3) := by decide +kernel
theorem dX2_frame_85 : decode cX2_frame 85 = .ok (.aload_n 0, 1) := by decide +kernel
theorem dX2_frame_86 : decode cX2_frame 86 = .ok (.getfield 158, 3) := by decide +kernel
theorem dX2_frame_89 : decode cX2_frame 89 = .ok (.iload_n 1, 1) := by decide +kernel
theorem dX2_frame_90 : decode cX2_frame 90 = .ok (.isub, 1) := by decide +kernel
theorem dX2_frame_91 : decode cX2_frame 91 = .ok (.ireturn, 1) := by decide +kernel
set_option maxRecDepth 20000 in
theorem ggX2_unit_X2_numbered : GoodIn wsX2_unit wsX2_numbered := goodIn_ca (goodIn_r _ [14, 1, 2, 15, 31, 32, 33, 34, 35, 36, 37, 38, 39, 40, 41, 42, 43, 44, 45, 46] (by decide +kernel) (by decide +kernel)) (goodIn_sub (fun _ h => List.mem_cons_of_mem _ (List.mem_append_right _ h)) (by decide +kernel))
set_option maxRecDepth 20000 in
theorem gX2_unit_X2_numbered : GoodIn wsX2_unit (wsV RX2 182 RX2 yX2_numbered wsX2_numbered) := goodIn_app (goodIn_of _ (by decide +kernel)) ggX2_unit_X2_numbered
theorem dX2_unit_0 : decode cX2_unit 0 = .ok (.aload_n 0, 1) := by decide +kernel
theorem dX2_unit_1 : decode cX2_unit 1 = .ok (.iload_n 1, 1) := by decide +kernel
theorem dX2_unit_2 : decode cX2_unit 2 = .ok (.invokevirtual 182, 3) := by decide +kernel
theorem dX2_unit_5 : decode cX2_unit 5 = .ok (.astore_n 3, 1) := by decide +kernel
theorem dX2_unit_6 : decode cX2_unit 6 = .ok (.iload_n 2, 1) := by decide +kernel
theorem dX2_unit_7 : decode cX2_unit 7 = .ok (.tableswitch 76 0 6 #[41, 46, 51, 56, 61, 66, 71], 41) := by decide +kernel
theorem dX2_unit_48 : decode cX2_unit 48 = .ok (.aload_n 3, 1) := by decide +kernel
theorem dX2_unit_49 : decode cX2_unit 49 = .ok (.getfield 58, 3) := by decide +kernel
theorem dX2_unit_52 : decode cX2_unit 52 = .ok (.ireturn, 1) := by decide +kernel
theorem dX2_unit_53 : decode cX2_unit 53 = .ok (.aload_n 3, 1) := by decide +kernel
theorem dX2_unit_54 : decode cX2_unit 54 = .ok (.getfield 101, 3) := by decide +kernel
theorem dX2_unit_57 : decode cX2_unit 57 = .ok (.ireturn, 1) := by decide +kernel
theorem dX2_unit_58 : decode cX2_unit 58 = .ok (.aload_n 3, 1) := by decide +kernel
theorem dX2_unit_59 : decode cX2_unit 59 = .ok (.getfield 185, 3) := by decide +kernel
theorem dX2_unit_62 : decode cX2_unit 62 = .ok (.ireturn, 1) := by decide +kernel
theorem dX2_unit_63 : decode cX2_unit 63 = .ok (.aload_n 3, 1) := by decide +kernel
theorem dX2_unit_64 : decode cX2_unit 64 = .ok (.getfield 188, 3) := by decide +kernel
theorem dX2_unit_67 : decode cX2_unit 67 = .ok (.ireturn, 1) := by decide +kernel
theorem dX2_unit_68 : decode cX2_unit 68 = .ok (.aload_n 3, 1) := by decide +kernel
theorem dX2_unit_69 : decode cX2_unit 69 = .ok (.getfield 191, 3) := by decide +kernel
theorem dX2_unit_72 : decode cX2_unit 72 = .ok (.ireturn, 1) := by decide +kernel
theorem dX2_unit_73 : decode cX2_unit 73 = .ok (.aload_n 3, 1) := by decide +kernel
theorem dX2_unit_74 : decode cX2_unit 74 = .ok (.getfield 194, 3) := by decide +kernel
theorem dX2_unit_77 : decode cX2_unit 77 = .ok (.ireturn, 1) := by decide +kernel
theorem dX2_unit_78 : decode cX2_unit 78 = .ok (.aload_n 3, 1) := by decide +kernel
theorem dX2_unit_79 : decode cX2_unit 79 = .ok (.getfield 197, 3) := by decide +kernel
theorem dX2_unit_82 : decode cX2_unit 82 = .ok (.ireturn, 1) := by decide +kernel
theorem dX2_unit_83 : decode cX2_unit 83 = .ok (.new 37, 3) := by decide +kernel
theorem dX2_unit_86 : decode cX2_unit 86 = .ok (.dup, 1) := by decide +kernel
theorem dX2_unit_87 : decode cX2_unit 87 = .ok (.ldc 200, 2) := by decide +kernel
theorem dX2_unit_89 : decode cX2_unit 89 = .ok (.invokespecial 41, 3) := by decide +kernel
theorem dX2_unit_92 : decode cX2_unit 92 = .ok (.athrow, 1) := by decide +kernel
set_option maxRecDepth 20000 in
theorem ggX2_container_X2_numbered : GoodIn wsX2_container wsX2_numbered := goodIn_ca (goodIn_r _ [10, 1, 2, 11, 34, 35, 36, 37, 38, 39, 40, 41, 42, 43, 44, 45, 46, 47, 48, 49] (by decide +kernel) (by decide +kernel)) (goodIn_sub (fun _ h => List.mem_cons_of_mem _ (List.mem_append_right _ h)) (by decide +kernel))
set_option maxRecDepth 20000 in
theorem gX2_container_X2_numbered : GoodIn wsX2_container (wsV RX2 182 RX2 yX2_numbered wsX2_numbered) := goodIn_app (goodIn_of _ (by decide +kernel)) ggX2_container_X2_numbered
set_option maxRecDepth 20000 in
theorem ggX2_container_X2_containerOf : GoodIn wsX2_container wsX2_containerOf := goodIn_ca (goodIn_r _ [14, 1, 2, 15, 50, 51, 52, 53, 54, 55, 56, 57, 58, 59, 60, 61, 62, 63, 64] (by decide +kernel) (by decide +kernel)) (goodIn_sub (fun _ h => List.mem_cons_of_mem _ (List.mem_append_right _ h)) (by decide +kernel))
set_option maxRecDepth 20000 in
theorem gX2_container_X2_containerOf : GoodIn wsX2_container (va_wsS RX2 202 yX2_containerOf wsX2_containerOf) := goodIn_app (goodIn_of _ (by decide +kernel)) ggX2_container_X2_containerOf
set_option maxRecDepth 20000 in
theorem ggX2_container_X0_load : GoodIn wsX2_container wsX0_load := goodIn_r _ [20, 21, 22, 23, 24, 25, 26, 27, 28, 29, 30, 31, 32, 33] (by decide +kernel) (by decide +kernel)
set_option maxRecDepth 20000 in
theorem gX2_container_X0_load : GoodIn wsX2_container (wsV RX2 206 RX0 yX0_load wsX0_load) := goodIn_app (goodIn_of _ (by decide +kernel)) ggX2_container_X0_load
theorem dX2_container_0 : decode cX2_container 0 = .ok (.aload_n 0, 1) := by decide +kernel
theorem dX2_container_1 : decode cX2_container 1 = .ok (.iload_n 1, 1) := by decide +kernel
theorem dX2_container_2 : decode cX2_container 2 = .ok (.invokevirtual 182, 3) := by decide +kernel
theorem dX2_container_5 : decode cX2_container 5 = .ok (.iload_n 2, 1) := by decide +kernel
theorem dX2_container_6 : decode cX2_container 6 = .ok (.invokestatic 202, 3) := by decide +kernel
theorem dX2_container_9 : decode cX2_container 9 = .ok (.astore 4, 2) := by decide +kernel
theorem dX2_container_11 : decode cX2_container 11 = .ok (.iload_n 3, 1) := by decide +kernel
theorem dX2_container_12 : decode cX2_container 12 = .ok (.tableswitch 56 0 3 #[32, 38, 44, 50], 32) := by decide +kernel
theorem dX2_container_44 : decode cX2_container 44 = .ok (.aload 4, 2) := by decide +kernel
theorem dX2_container_46 : decode cX2_container 46 = .ok (.invokevirtual 206, 3) := by decide +kernel
theorem dX2_container_49 : decode cX2_container 49 = .ok (.ireturn, 1) := by decide +kernel
theorem dX2_container_50 : decode cX2_container 50 = .ok (.aload 4, 2) := by decide +kernel
theorem dX2_container_52 : decode cX2_container 52 = .ok (.getfield 209, 3) := by decide +kernel
theorem dX2_container_55 : decode cX2_container 55 = .ok (.ireturn, 1) := by decide +kernel
theorem dX2_container_56 : decode cX2_container 56 = .ok (.aload 4, 2) := by decide +kernel
theorem dX2_container_58 : decode cX2_container 58 = .ok (.getfield 212, 3) := by decide +kernel
theorem dX2_container_61 : decode cX2_container 61 = .ok (.ireturn, 1) := by decide +kernel
theorem dX2_container_62 : decode cX2_container 62 = .ok (.aload 4, 2) := by decide +kernel
theorem dX2_container_64 : decode cX2_container 64 = .ok (.getfield 106, 3) := by decide +kernel
theorem dX2_container_67 : decode cX2_container 67 = .ok (.ireturn, 1) := by decide +kernel
theorem dX2_container_68 : decode cX2_container 68 = .ok (.new 37, 3) := by decide +kernel
theorem dX2_container_71 : decode cX2_container 71 = .ok (.dup, 1) := by decide +kernel
theorem dX2_container_72 : decode cX2_container 72 = .ok (.ldc 200, 2) := by decide +kernel
theorem dX2_container_74 : decode cX2_container 74 = .ok (.invokespecial 41, 3) := by decide +kernel
theorem dX2_container_77 : decode cX2_container 77 = .ok (.athrow, 1) := by decide +kernel
theorem dX2_came_0 : decode cX2_came 0 = .ok (.iload_n 1, 1) := by decide +kernel
theorem dX2_came_1 : decode cX2_came 1 = .ok (.ifCond .lt 11, 3) := by decide +kernel
theorem dX2_came_4 : decode cX2_came 4 = .ok (.iload_n 1, 1) := by decide +kernel
theorem dX2_came_5 : decode cX2_came 5 = .ok (.aload_n 0, 1) := by decide +kernel
theorem dX2_came_6 : decode cX2_came 6 = .ok (.getfield 158, 3) := by decide +kernel
theorem dX2_came_9 : decode cX2_came 9 = .ok (.if_icmp .lt 13, 3) := by decide +kernel
theorem dX2_came_12 : decode cX2_came 12 = .ok (.new 215, 3) := by decide +kernel
theorem dX2_came_15 : decode cX2_came 15 = .ok (.dup, 1) := by decide +kernel
theorem dX2_came_16 : decode cX2_came 16 = .ok (.ldc 217, 2) := by decide +kernel
theorem dX2_came_18 : decode cX2_came 18 = .ok (.invokespecial 219, 3) := by decide +kernel
theorem dX2_came_21 : decode cX2_came 21 = .ok (.athrow, 1) := by decide +kernel
theorem dX2_came_22 : decode cX2_came 22 = .ok (.iload_n 2, 1) := by decide +kernel
theorem dX2_came_23 : decode cX2_came 23 = .ok (.ifCond .lt 8, 3) := by decide +kernel
theorem dX2_came_26 : decode cX2_came 26 = .ok (.iload_n 2, 1) := by decide +kernel
theorem dX2_came_27 : decode cX2_came 27 = .ok (.iconst 4, 1) := by decide +kernel
theorem dX2_came_28 : decode cX2_came 28 = .ok (.if_icmp .lt 13, 3) := by decide +kernel
theorem dX2_came_31 : decode cX2_came 31 = .ok (.new 37, 3) := by decide +kernel
theorem dX2_came_34 : decode cX2_came 34 = .ok (.dup, 1) := by decide +kernel
theorem dX2_came_35 : decode cX2_came 35 = .ok (.ldc 200, 2) := by decide +kernel
theorem dX2_came_37 : decode cX2_came 37 = .ok (.invokespecial 41, 3) := by decide +kernel
theorem dX2_came_40 : decode cX2_came 40 = .ok (.athrow, 1) := by decide +kernel
theorem dX2_came_41 : decode cX2_came 41 = .ok (.aload_n 0, 1) := by decide +kernel
theorem dX2_came_42 : decode cX2_came 42 = .ok (.getfield 19, 3) := by decide +kernel
theorem dX2_came_45 : decode cX2_came 45 = .ok (.iload_n 1, 1) := by decide +kernel
theorem dX2_came_46 : decode cX2_came 46 = .ok (.iconst 4, 1) := by decide +kernel
theorem dX2_came_47 : decode cX2_came 47 = .ok (.imul, 1) := by decide +kernel
theorem dX2_came_48 : decode cX2_came 48 = .ok (.iload_n 2, 1) := by decide +kernel
theorem dX2_came_49 : decode cX2_came 49 = .ok (.iadd, 1) := by decide +kernel
theorem dX2_came_50 : decode cX2_came 50 = .ok (.iaload, 1) := by decide +kernel
theorem dX2_came_51 : decode cX2_came 51 = .ok (.ireturn, 1) := by decide +kernel
theorem dX2_count_0 : decode cX2_count 0 = .ok (.iload_n 1, 1) := by decide +kernel
theorem dX2_count_1 : decode cX2_count 1 = .ok (.tableswitch 78 0 6 #[43, 48, 53, 58, 63, 68, 73], 43) := by decide +kernel
theorem dX2_count_44 : decode cX2_count 44 = .ok (.aload_n 0, 1) := by decide +kernel
theorem dX2_count_45 : decode cX2_count 45 = .ok (.getfield 158, 3) := by decide +kernel
theorem dX2_count_48 : decode cX2_count 48 = .ok (.ireturn, 1) := by decide +kernel
theorem dX2_count_49 : decode cX2_count 49 = .ok (.aload_n 0, 1) := by decide +kernel
theorem dX2_count_50 : decode cX2_count 50 = .ok (.getfield 220, 3) := by decide +kernel
theorem dX2_count_53 : decode cX2_count 53 = .ok (.ireturn, 1) := by decide +kernel
theorem dX2_count_54 : decode cX2_count 54 = .ok (.aload_n 0, 1) := by decide +kernel
theorem dX2_count_55 : decode cX2_count 55 = .ok (.getfield 143, 3) := by decide +kernel
theorem dX2_count_58 : decode cX2_count 58 = .ok (.ireturn, 1) := by decide +kernel
theorem dX2_count_59 : decode cX2_count 59 = .ok (.aload_n 0, 1) := by decide +kernel
theorem dX2_count_60 : decode cX2_count 60 = .ok (.getfield 146, 3) := by decide +kernel
theorem dX2_count_63 : decode cX2_count 63 = .ok (.ireturn, 1) := by decide +kernel
theorem dX2_count_64 : decode cX2_count 64 = .ok (.aload_n 0, 1) := by decide +kernel
theorem dX2_count_65 : decode cX2_count 65 = .ok (.getfield 223, 3) := by decide +kernel
theorem dX2_count_68 : decode cX2_count 68 = .ok (.ireturn, 1) := by decide +kernel
theorem dX2_count_69 : decode cX2_count 69 = .ok (.aload_n 0, 1) := by decide +kernel
theorem dX2_count_70 : decode cX2_count 70 = .ok (.getfield 226, 3) := by decide +kernel
theorem dX2_count_73 : decode cX2_count 73 = .ok (.ireturn, 1) := by decide +kernel
theorem dX2_count_74 : decode cX2_count 74 = .ok (.aload_n 0, 1) := by decide +kernel
theorem dX2_count_75 : decode cX2_count 75 = .ok (.getfield 229, 3) := by decide +kernel
theorem dX2_count_78 : decode cX2_count 78 = .ok (.ireturn, 1) := by decide +kernel
theorem dX2_count_79 : decode cX2_count 79 = .ok (.new 37, 3) := by decide +kernel
theorem dX2_count_82 : decode cX2_count 82 = .ok (.dup, 1) := by decide +kernel
theorem dX2_count_83 : decode cX2_count 83 = .ok (.ldc 232, 2) := by decide +kernel
theorem dX2_count_85 : decode cX2_count 85 = .ok (.invokespecial 41, 3) := by decide +kernel
theorem dX2_count_88 : decode cX2_count 88 = .ok (.athrow, 1) := by decide +kernel
theorem dX2_numbered_0 : decode cX2_numbered 0 = .ok (.iload_n 1, 1) := by decide +kernel
theorem dX2_numbered_1 : decode cX2_numbered 1 = .ok (.ifCond .lt 8, 3) := by decide +kernel
theorem dX2_numbered_4 : decode cX2_numbered 4 = .ok (.iload_n 1, 1) := by decide +kernel
theorem dX2_numbered_5 : decode cX2_numbered 5 = .ok (.iconst 5, 1) := by decide +kernel
theorem dX2_numbered_6 : decode cX2_numbered 6 = .ok (.if_icmp .lt 13, 3) := by decide +kernel
theorem dX2_numbered_9 : decode cX2_numbered 9 = .ok (.new 37, 3) := by decide +kernel
theorem dX2_numbered_12 : decode cX2_numbered 12 = .ok (.dup, 1) := by decide +kernel
theorem dX2_numbered_13 : decode cX2_numbered 13 = .ok (.ldc 234, 2) := by decide +kernel
theorem dX2_numbered_15 : decode cX2_numbered 15 = .ok (.invokespecial 41, 3) := by decide +kernel
theorem dX2_numbered_18 : decode cX2_numbered 18 = .ok (.athrow, 1) := by decide +kernel
theorem dX2_numbered_19 : decode cX2_numbered 19 = .ok (.aload_n 0, 1) := by decide +kernel
theorem dX2_numbered_20 : decode cX2_numbered 20 = .ok (.getfield 11, 3) := by decide +kernel
theorem dX2_numbered_23 : decode cX2_numbered 23 = .ok (.iload_n 1, 1) := by decide +kernel
theorem dX2_numbered_24 : decode cX2_numbered 24 = .ok (.aaload, 1) := by decide +kernel
theorem dX2_numbered_25 : decode cX2_numbered 25 = .ok (.areturn, 1) := by decide +kernel
set_option maxRecDepth 20000 in
theorem ggX2_plugged_X2_numbered : GoodIn wsX2_plugged wsX2_numbered := goodIn_ca (goodIn_r _ [8, 1, 2, 9, 25, 26, 27, 28, 29, 30, 31, 32, 33, 34, 35, 36, 37, 38, 39, 40] (by decide +kernel) (by decide +kernel)) (goodIn_sub (fun _ h => List.mem_cons_of_mem _ (List.mem_append_right _ h)) (by decide +kernel))
set_option maxRecDepth 20000 in
theorem gX2_plugged_X2_numbered : GoodIn wsX2_plugged (wsV RX2 182 RX2 yX2_numbered wsX2_numbered) := goodIn_app (goodIn_of _ (by decide +kernel)) ggX2_plugged_X2_numbered
theorem dX2_plugged_0 : decode cX2_plugged 0 = .ok (.aload_n 0, 1) := by decide +kernel
theorem dX2_plugged_1 : decode cX2_plugged 1 = .ok (.iload_n 1, 1) := by decide +kernel
theorem dX2_plugged_2 : decode cX2_plugged 2 = .ok (.invokevirtual 182, 3) := by decide +kernel
theorem dX2_plugged_5 : decode cX2_plugged 5 = .ok (.astore_n 2, 1) := by decide +kernel
theorem dX2_plugged_6 : decode cX2_plugged 6 = .ok (.aload_n 2, 1) := by decide +kernel
theorem dX2_plugged_7 : decode cX2_plugged 7 = .ok (.getfield 58, 3) := by decide +kernel
theorem dX2_plugged_10 : decode cX2_plugged 10 = .ok (.ifCond .ne 13, 3) := by decide +kernel
theorem dX2_plugged_13 : decode cX2_plugged 13 = .ok (.new 37, 3) := by decide +kernel
theorem dX2_plugged_16 : decode cX2_plugged 16 = .ok (.dup, 1) := by decide +kernel
theorem dX2_plugged_17 : decode cX2_plugged 17 = .ok (.ldc 236, 2) := by decide +kernel
theorem dX2_plugged_19 : decode cX2_plugged 19 = .ok (.invokespecial 41, 3) := by decide +kernel
theorem dX2_plugged_22 : decode cX2_plugged 22 = .ok (.athrow, 1) := by decide +kernel
theorem dX2_plugged_23 : decode cX2_plugged 23 = .ok (.aload_n 2, 1) := by decide +kernel
theorem dX2_plugged_24 : decode cX2_plugged 24 = .ok (.areturn, 1) := by decide +kernel
theorem dX2_containerOf_0 : decode cX2_containerOf 0 = .ok (.iload_n 1, 1) := by decide +kernel
theorem dX2_containerOf_1 : decode cX2_containerOf 1 = .ok (.ifCond .lt 8, 3) := by decide +kernel
theorem dX2_containerOf_4 : decode cX2_containerOf 4 = .ok (.iload_n 1, 1) := by decide +kernel
theorem dX2_containerOf_5 : decode cX2_containerOf 5 = .ok (.iconst 2, 1) := by decide +kernel
theorem dX2_containerOf_6 : decode cX2_containerOf 6 = .ok (.if_icmp .lt 13, 3) := by decide +kernel
theorem dX2_containerOf_9 : decode cX2_containerOf 9 = .ok (.new 37, 3) := by decide +kernel
theorem dX2_containerOf_12 : decode cX2_containerOf 12 = .ok (.dup, 1) := by decide +kernel
theorem dX2_containerOf_13 : decode cX2_containerOf 13 = .ok (.ldc 238, 2) := by decide +kernel
theorem dX2_containerOf_15 : decode cX2_containerOf 15 = .ok (.invokespecial 41, 3) := by decide +kernel
theorem dX2_containerOf_18 : decode cX2_containerOf 18 = .ok (.athrow, 1) := by decide +kernel
theorem dX2_containerOf_19 : decode cX2_containerOf 19 = .ok (.aload_n 0, 1) := by decide +kernel
theorem dX2_containerOf_20 : decode cX2_containerOf 20 = .ok (.getfield 240, 3) := by decide +kernel
theorem dX2_containerOf_23 : decode cX2_containerOf 23 = .ok (.iload_n 1, 1) := by decide +kernel
theorem dX2_containerOf_24 : decode cX2_containerOf 24 = .ok (.aaload, 1) := by decide +kernel
theorem dX2_containerOf_25 : decode cX2_containerOf 25 = .ok (.areturn, 1) := by decide +kernel
set_option maxRecDepth 20000 in
theorem ggX2_pluggedContainer_X2_plugged : GoodIn wsX2_pluggedContainer wsX2_plugged := goodIn_ca (goodIn_r _ [5, 6, 7, 8, 9, 10, 11, 4, 12, 13, 18, 19, 20, 21, 22, 23, 24, 25, 26, 27, 28, 29, 30, 31, 32, 33, 34, 35, 36, 37, 38, 39, 40, 41, 42, 43, 44, 45, 46, 47, 48] (by decide +kernel) (by decide +kernel)) (goodIn_sub (fun _ h => List.mem_cons_of_mem _ (List.mem_append_right _ h)) (by decide +kernel))
set_option maxRecDepth 20000 in
theorem gX2_pluggedContainer_X2_plugged : GoodIn wsX2_pluggedContainer (wsV RX2 66 RX2 yX2_plugged wsX2_plugged) := goodIn_app (goodIn_of _ (by decide +kernel)) ggX2_pluggedContainer_X2_plugged
set_option maxRecDepth 20000 in
theorem ggX2_pluggedContainer_X2_containerOf : GoodIn wsX2_pluggedContainer wsX2_containerOf := goodIn_ca (goodIn_r _ [16, 6, 7, 17, 18, 19, 20, 21, 22, 23, 24, 25, 26, 27, 28, 29, 30, 31, 32] (by decide +kernel) (by decide +kernel)) (goodIn_sub (fun _ h => List.mem_cons_of_mem _ (List.mem_append_right _ h)) (by decide +kernel))
set_option maxRecDepth 20000 in
theorem gX2_pluggedContainer_X2_containerOf : GoodIn wsX2_pluggedContainer (va_wsS RX2 202 yX2_containerOf wsX2_containerOf) := goodIn_app (goodIn_of _ (by decide +kernel)) ggX2_pluggedContainer_X2_containerOf
theorem dX2_pluggedContainer_0 : decode cX2_pluggedContainer 0 = .ok (.aload_n 0, 1) := by decide +kernel
theorem dX2_pluggedContainer_1 : decode cX2_pluggedContainer 1 = .ok (.iload_n 1, 1) := by decide +kernel
theorem dX2_pluggedContainer_2 : decode cX2_pluggedContainer 2 = .ok (.invokevirtual 66, 3) := by decide +kernel
theorem dX2_pluggedContainer_5 : decode cX2_pluggedContainer 5 = .ok (.iload_n 2, 1) := by decide +kernel
theorem dX2_pluggedContainer_6 : decode cX2_pluggedContainer 6 = .ok (.invokestatic 202, 3) := by decide +kernel
theorem dX2_pluggedContainer_9 : decode cX2_pluggedContainer 9 = .ok (.areturn, 1) := by decide +kernel
theorem dX2_hasSerial_0 : decode cX2_hasSerial 0 = .ok (.aload_n 0, 1) := by decide +kernel
theorem dX2_hasSerial_1 : decode cX2_hasSerial 1 = .ok (.getfield 11, 3) := by decide +kernel
theorem dX2_hasSerial_4 : decode cX2_hasSerial 4 = .ok (.astore_n 2, 1) := by decide +kernel
theorem dX2_hasSerial_5 : decode cX2_hasSerial 5 = .ok (.aload_n 2, 1) := by decide +kernel
theorem dX2_hasSerial_6 : decode cX2_hasSerial 6 = .ok (.arraylength, 1) := by decide +kernel
theorem dX2_hasSerial_7 : decode cX2_hasSerial 7 = .ok (.istore_n 3, 1) := by decide +kernel
theorem dX2_hasSerial_8 : decode cX2_hasSerial 8 = .ok (.iconst 0, 1) := by decide +kernel
theorem dX2_hasSerial_9 : decode cX2_hasSerial 9 = .ok (.istore 4, 2) := by decide +kernel
theorem dX2_hasSerial_11 : decode cX2_hasSerial 11 = .ok (.iload 4, 2) := by decide +kernel
theorem dX2_hasSerial_13 : decode cX2_hasSerial 13 = .ok (.iload_n 3, 1) := by decide +kernel
theorem dX2_hasSerial_14 : decode cX2_hasSerial 14 = .ok (.if_icmp .ge 34, 3) := by decide +kernel
theorem dX2_hasSerial_17 : decode cX2_hasSerial 17 = .ok (.aload_n 2, 1) := by decide +kernel
theorem dX2_hasSerial_18 : decode cX2_hasSerial 18 = .ok (.iload 4, 2) := by decide +kernel
theorem dX2_hasSerial_20 : decode cX2_hasSerial 20 = .ok (.aaload, 1) := by decide +kernel
theorem dX2_hasSerial_21 : decode cX2_hasSerial 21 = .ok (.astore 5, 2) := by decide +kernel
theorem dX2_hasSerial_23 : decode cX2_hasSerial 23 = .ok (.aload 5, 2) := by decide +kernel
theorem dX2_hasSerial_25 : decode cX2_hasSerial 25 = .ok (.getfield 58, 3) := by decide +kernel
theorem dX2_hasSerial_28 : decode cX2_hasSerial 28 = .ok (.ifCond .eq 14, 3) := by decide +kernel
theorem dX2_hasSerial_31 : decode cX2_hasSerial 31 = .ok (.aload 5, 2) := by decide +kernel
theorem dX2_hasSerial_33 : decode cX2_hasSerial 33 = .ok (.getfield 62, 3) := by decide +kernel
theorem dX2_hasSerial_36 : decode cX2_hasSerial 36 = .ok (.iload_n 1, 1) := by decide +kernel
theorem dX2_hasSerial_37 : decode cX2_hasSerial 37 = .ok (.if_icmp .ne 5, 3) := by decide +kernel
theorem dX2_hasSerial_40 : decode cX2_hasSerial 40 = .ok (.iconst 1, 1) := by decide +kernel
theorem dX2_hasSerial_41 : decode cX2_hasSerial 41 = .ok (.ireturn, 1) := by decide +kernel
theorem dX2_hasSerial_42 : decode cX2_hasSerial 42 = .ok (.iinc 4 1, 3) := by decide +kernel
theorem dX2_hasSerial_45 : decode cX2_hasSerial 45 = .ok (.goto (-34), 3) := by decide +kernel
theorem dX2_hasSerial_48 : decode cX2_hasSerial 48 = .ok (.iconst 0, 1) := by decide +kernel
theorem dX2_hasSerial_49 : decode cX2_hasSerial 49 = .ok (.ireturn, 1) := by decide +kernel
theorem dX2_isWay_0 : decode cX2_isWay 0 = .ok (.iload_n 0, 1) := by decide +kernel
theorem dX2_isWay_1 : decode cX2_isWay 1 = .ok (.bipush 100, 2) := by decide +kernel
theorem dX2_isWay_3 : decode cX2_isWay 3 = .ok (.if_icmp .lt 14, 3) := by decide +kernel
theorem dX2_isWay_6 : decode cX2_isWay 6 = .ok (.iload_n 0, 1) := by decide +kernel
theorem dX2_isWay_7 : decode cX2_isWay 7 = .ok (.sipush 600, 3) := by decide +kernel
theorem dX2_isWay_10 : decode cX2_isWay 10 = .ok (.if_icmp .gt 7, 3) := by decide +kernel
theorem dX2_isWay_13 : decode cX2_isWay 13 = .ok (.iconst 1, 1) := by decide +kernel
theorem dX2_isWay_14 : decode cX2_isWay 14 = .ok (.goto 4, 3) := by decide +kernel
theorem dX2_isWay_17 : decode cX2_isWay 17 = .ok (.iconst 0, 1) := by decide +kernel
theorem dX2_isWay_18 : decode cX2_isWay 18 = .ok (.ireturn, 1) := by decide +kernel
theorem dX2_firstAway_0 : decode cX2_firstAway 0 = .ok (.iconst 0, 1) := by decide +kernel
theorem dX2_firstAway_1 : decode cX2_firstAway 1 = .ok (.istore_n 1, 1) := by decide +kernel
theorem dX2_firstAway_2 : decode cX2_firstAway 2 = .ok (.iload_n 1, 1) := by decide +kernel
theorem dX2_firstAway_3 : decode cX2_firstAway 3 = .ok (.iconst 5, 1) := by decide +kernel
theorem dX2_firstAway_4 : decode cX2_firstAway 4 = .ok (.if_icmp .ge 21, 3) := by decide +kernel
theorem dX2_firstAway_7 : decode cX2_firstAway 7 = .ok (.aload_n 0, 1) := by decide +kernel
theorem dX2_firstAway_8 : decode cX2_firstAway 8 = .ok (.getfield 11, 3) := by decide +kernel
theorem dX2_firstAway_11 : decode cX2_firstAway 11 = .ok (.iload_n 1, 1) := by decide +kernel
theorem dX2_firstAway_12 : decode cX2_firstAway 12 = .ok (.aaload, 1) := by decide +kernel
theorem dX2_firstAway_13 : decode cX2_firstAway 13 = .ok (.getfield 58, 3) := by decide +kernel
theorem dX2_firstAway_16 : decode cX2_firstAway 16 = .ok (.ifCond .eq 9, 3) := by decide +kernel
theorem dX2_firstAway_19 : decode cX2_firstAway 19 = .ok (.iinc 1 1, 3) := by decide +kernel
theorem dX2_firstAway_22 : decode cX2_firstAway 22 = .ok (.goto (-20), 3) := by decide +kernel
theorem dX2_firstAway_25 : decode cX2_firstAway 25 = .ok (.iload_n 1, 1) := by decide +kernel
theorem dX2_firstAway_26 : decode cX2_firstAway 26 = .ok (.ireturn, 1) := by decide +kernel
theorem dX2_contracted_0 : decode cX2_contracted 0 = .ok (.iconst 0, 1) := by decide +kernel
theorem dX2_contracted_1 : decode cX2_contracted 1 = .ok (.istore_n 1, 1) := by decide +kernel
theorem dX2_contracted_2 : decode cX2_contracted 2 = .ok (.aload_n 0, 1) := by decide +kernel
theorem dX2_contracted_3 : decode cX2_contracted 3 = .ok (.getfield 11, 3) := by decide +kernel
theorem dX2_contracted_6 : decode cX2_contracted 6 = .ok (.astore_n 2, 1) := by decide +kernel
theorem dX2_contracted_7 : decode cX2_contracted 7 = .ok (.aload_n 2, 1) := by decide +kernel
theorem dX2_contracted_8 : decode cX2_contracted 8 = .ok (.arraylength, 1) := by decide +kernel
theorem dX2_contracted_9 : decode cX2_contracted 9 = .ok (.istore_n 3, 1) := by decide +kernel
theorem dX2_contracted_10 : decode cX2_contracted 10 = .ok (.iconst 0, 1) := by decide +kernel
theorem dX2_contracted_11 : decode cX2_contracted 11 = .ok (.istore 4, 2) := by decide +kernel
theorem dX2_contracted_13 : decode cX2_contracted 13 = .ok (.iload 4, 2) := by decide +kernel
theorem dX2_contracted_15 : decode cX2_contracted 15 = .ok (.iload_n 3, 1) := by decide +kernel
theorem dX2_contracted_16 : decode cX2_contracted 16 = .ok (.if_icmp .ge 64, 3) := by decide +kernel
theorem dX2_contracted_19 : decode cX2_contracted 19 = .ok (.aload_n 2, 1) := by decide +kernel
theorem dX2_contracted_20 : decode cX2_contracted 20 = .ok (.iload 4, 2) := by decide +kernel
theorem dX2_contracted_22 : decode cX2_contracted 22 = .ok (.aaload, 1) := by decide +kernel
theorem dX2_contracted_23 : decode cX2_contracted 23 = .ok (.astore 5, 2) := by decide +kernel
theorem dX2_contracted_25 : decode cX2_contracted 25 = .ok (.aload 5, 2) := by decide +kernel
theorem dX2_contracted_27 : decode cX2_contracted 27 = .ok (.getfield 240, 3) := by decide +kernel
theorem dX2_contracted_30 : decode cX2_contracted 30 = .ok (.astore 6, 2) := by decide +kernel
theorem dX2_contracted_32 : decode cX2_contracted 32 = .ok (.aload 6, 2) := by decide +kernel
theorem dX2_contracted_34 : decode cX2_contracted 34 = .ok (.arraylength, 1) := by decide +kernel
theorem dX2_contracted_35 : decode cX2_contracted 35 = .ok (.istore 7, 2) := by decide +kernel
theorem dX2_contracted_37 : decode cX2_contracted 37 = .ok (.iconst 0, 1) := by decide +kernel
theorem dX2_contracted_38 : decode cX2_contracted 38 = .ok (.istore 8, 2) := by decide +kernel
theorem dX2_contracted_40 : decode cX2_contracted 40 = .ok (.iload 8, 2) := by decide +kernel
theorem dX2_contracted_42 : decode cX2_contracted 42 = .ok (.iload 7, 2) := by decide +kernel
theorem dX2_contracted_44 : decode cX2_contracted 44 = .ok (.if_icmp .ge 30, 3) := by decide +kernel
theorem dX2_contracted_47 : decode cX2_contracted 47 = .ok (.aload 6, 2) := by decide +kernel
theorem dX2_contracted_49 : decode cX2_contracted 49 = .ok (.iload 8, 2) := by decide +kernel
theorem dX2_contracted_51 : decode cX2_contracted 51 = .ok (.aaload, 1) := by decide +kernel
theorem dX2_contracted_52 : decode cX2_contracted 52 = .ok (.astore 9, 2) := by decide +kernel
theorem dX2_contracted_54 : decode cX2_contracted 54 = .ok (.iload_n 1, 1) := by decide +kernel
theorem dX2_contracted_55 : decode cX2_contracted 55 = .ok (.aload 9, 2) := by decide +kernel
theorem dX2_contracted_57 : decode cX2_contracted 57 = .ok (.getfield 84, 3) := by decide +kernel
theorem dX2_contracted_60 : decode cX2_contracted 60 = .ok (.aload 9, 2) := by decide +kernel
theorem dX2_contracted_62 : decode cX2_contracted 62 = .ok (.getfield 89, 3) := by decide +kernel
theorem dX2_contracted_65 : decode cX2_contracted 65 = .ok (.iadd, 1) := by decide +kernel
theorem dX2_contracted_66 : decode cX2_contracted 66 = .ok (.iadd, 1) := by decide +kernel
theorem dX2_contracted_67 : decode cX2_contracted 67 = .ok (.istore_n 1, 1) := by decide +kernel
theorem dX2_contracted_68 : decode cX2_contracted 68 = .ok (.iinc 8 1, 3) := by decide +kernel
theorem dX2_contracted_71 : decode cX2_contracted 71 = .ok (.goto (-31), 3) := by decide +kernel
theorem dX2_contracted_74 : decode cX2_contracted 74 = .ok (.iinc 4 1, 3) := by decide +kernel
theorem dX2_contracted_77 : decode cX2_contracted 77 = .ok (.goto (-64), 3) := by decide +kernel
theorem dX2_contracted_80 : decode cX2_contracted 80 = .ok (.iload_n 1, 1) := by decide +kernel
theorem dX2_contracted_81 : decode cX2_contracted 81 = .ok (.ireturn, 1) := by decide +kernel
theorem dX2_passDark_0 : decode cX2_passDark 0 = .ok (.aload_n 0, 1) := by decide +kernel
theorem dX2_passDark_1 : decode cX2_passDark 1 = .ok (.dup, 1) := by decide +kernel
theorem dX2_passDark_2 : decode cX2_passDark 2 = .ok (.getfield 152, 3) := by decide +kernel
theorem dX2_passDark_5 : decode cX2_passDark 5 = .ok (.iconst 1, 1) := by decide +kernel
theorem dX2_passDark_6 : decode cX2_passDark 6 = .ok (.iadd, 1) := by decide +kernel
theorem dX2_passDark_7 : decode cX2_passDark 7 = .ok (.putfield 152, 3) := by decide +kernel
theorem dX2_passDark_10 : decode cX2_passDark 10 = .ok (.iconst 1, 1) := by decide +kernel
theorem dX2_passDark_11 : decode cX2_passDark 11 = .ok (.aload_n 0, 1) := by decide +kernel
theorem dX2_passDark_12 : decode cX2_passDark 12 = .ok (.getfield 146, 3) := by decide +kernel
theorem dX2_passDark_15 : decode cX2_passDark 15 = .ok (.isub, 1) := by decide +kernel
theorem dX2_passDark_16 : decode cX2_passDark 16 = .ok (.istore_n 1, 1) := by decide +kernel
theorem dX2_passDark_17 : decode cX2_passDark 17 = .ok (.aload_n 0, 1) := by decide +kernel
theorem dX2_passDark_18 : decode cX2_passDark 18 = .ok (.getfield 152, 3) := by decide +kernel
theorem dX2_passDark_21 : decode cX2_passDark 21 = .ok (.iconst 3, 1) := by decide +kernel
theorem dX2_passDark_22 : decode cX2_passDark 22 = .ok (.if_icmp .lt 22, 3) := by decide +kernel
theorem dX2_passDark_25 : decode cX2_passDark 25 = .ok (.aload_n 0, 1) := by decide +kernel
theorem dX2_passDark_26 : decode cX2_passDark 26 = .ok (.getfield 15, 3) := by decide +kernel
theorem dX2_passDark_29 : decode cX2_passDark 29 = .ok (.iload_n 1, 1) := by decide +kernel
theorem dX2_passDark_30 : decode cX2_passDark 30 = .ok (.baload, 1) := by decide +kernel
theorem dX2_passDark_31 : decode cX2_passDark 31 = .ok (.ifCond .ne 13, 3) := by decide +kernel
theorem dX2_passDark_34 : decode cX2_passDark 34 = .ok (.aload_n 0, 1) := by decide +kernel
theorem dX2_passDark_35 : decode cX2_passDark 35 = .ok (.iload_n 1, 1) := by decide +kernel
theorem dX2_passDark_36 : decode cX2_passDark 36 = .ok (.putfield 146, 3) := by decide +kernel
theorem dX2_passDark_39 : decode cX2_passDark 39 = .ok (.aload_n 0, 1) := by decide +kernel
theorem dX2_passDark_40 : decode cX2_passDark 40 = .ok (.iconst 0, 1) := by decide +kernel
theorem dX2_passDark_41 : decode cX2_passDark 41 = .ok (.putfield 152, 3) := by decide +kernel
theorem dX2_passDark_44 : decode cX2_passDark 44 = .ok (.return_, 1) := by decide +kernel
set_option maxRecDepth 20000 in
theorem ggX2_passQuiet_X1_answerWindow : GoodIn wsX2_passQuiet wsX1_answerWindow := goodIn_r _ [9, 10, 11, 12, 13, 14, 15, 16, 33, 34, 35, 36, 37, 38, 39, 40, 41, 42, 43, 44, 45, 46, 47] (by decide +kernel) (by decide +kernel)
set_option maxRecDepth 20000 in
theorem gX2_passQuiet_X1_answerWindow : GoodIn wsX2_passQuiet (wsV RX2 244 RX1 yX1_answerWindow wsX1_answerWindow) := goodIn_app (goodIn_of _ (by decide +kernel)) ggX2_passQuiet_X1_answerWindow
theorem dX2_passQuiet_0 : decode cX2_passQuiet 0 = .ok (.iconst 0, 1) := by decide +kernel
theorem dX2_passQuiet_1 : decode cX2_passQuiet 1 = .ok (.istore_n 1, 1) := by decide +kernel
theorem dX2_passQuiet_2 : decode cX2_passQuiet 2 = .ok (.iload_n 1, 1) := by decide +kernel
theorem dX2_passQuiet_3 : decode cX2_passQuiet 3 = .ok (.bipush 8, 2) := by decide +kernel
theorem dX2_passQuiet_5 : decode cX2_passQuiet 5 = .ok (.if_icmp .ge 16, 3) := by decide +kernel
theorem dX2_passQuiet_8 : decode cX2_passQuiet 8 = .ok (.aload_n 0, 1) := by decide +kernel
theorem dX2_passQuiet_9 : decode cX2_passQuiet 9 = .ok (.getfield 23, 3) := by decide +kernel
theorem dX2_passQuiet_12 : decode cX2_passQuiet 12 = .ok (.iload_n 1, 1) := by decide +kernel
theorem dX2_passQuiet_13 : decode cX2_passQuiet 13 = .ok (.iconst 0, 1) := by decide +kernel
theorem dX2_passQuiet_14 : decode cX2_passQuiet 14 = .ok (.iastore, 1) := by decide +kernel
theorem dX2_passQuiet_15 : decode cX2_passQuiet 15 = .ok (.iinc 1 1, 3) := by decide +kernel
theorem dX2_passQuiet_18 : decode cX2_passQuiet 18 = .ok (.goto (-16), 3) := by decide +kernel
theorem dX2_passQuiet_21 : decode cX2_passQuiet 21 = .ok (.aload_n 0, 1) := by decide +kernel
theorem dX2_passQuiet_22 : decode cX2_passQuiet 22 = .ok (.getfield 11, 3) := by decide +kernel
theorem dX2_passQuiet_25 : decode cX2_passQuiet 25 = .ok (.astore_n 1, 1) := by decide +kernel
theorem dX2_passQuiet_26 : decode cX2_passQuiet 26 = .ok (.aload_n 1, 1) := by decide +kernel
theorem dX2_passQuiet_27 : decode cX2_passQuiet 27 = .ok (.arraylength, 1) := by decide +kernel
theorem dX2_passQuiet_28 : decode cX2_passQuiet 28 = .ok (.istore_n 2, 1) := by decide +kernel
theorem dX2_passQuiet_29 : decode cX2_passQuiet 29 = .ok (.iconst 0, 1) := by decide +kernel
theorem dX2_passQuiet_30 : decode cX2_passQuiet 30 = .ok (.istore_n 3, 1) := by decide +kernel
theorem dX2_passQuiet_31 : decode cX2_passQuiet 31 = .ok (.iload_n 3, 1) := by decide +kernel
theorem dX2_passQuiet_32 : decode cX2_passQuiet 32 = .ok (.iload_n 2, 1) := by decide +kernel
theorem dX2_passQuiet_33 : decode cX2_passQuiet 33 = .ok (.if_icmp .ge 37, 3) := by decide +kernel
theorem dX2_passQuiet_36 : decode cX2_passQuiet 36 = .ok (.aload_n 1, 1) := by decide +kernel
theorem dX2_passQuiet_37 : decode cX2_passQuiet 37 = .ok (.iload_n 3, 1) := by decide +kernel
theorem dX2_passQuiet_38 : decode cX2_passQuiet 38 = .ok (.aaload, 1) := by decide +kernel
theorem dX2_passQuiet_39 : decode cX2_passQuiet 39 = .ok (.astore 4, 2) := by decide +kernel
theorem dX2_passQuiet_41 : decode cX2_passQuiet 41 = .ok (.aload 4, 2) := by decide +kernel
theorem dX2_passQuiet_43 : decode cX2_passQuiet 43 = .ok (.getfield 58, 3) := by decide +kernel
theorem dX2_passQuiet_46 : decode cX2_passQuiet 46 = .ok (.iconst 1, 1) := by decide +kernel
theorem dX2_passQuiet_47 : decode cX2_passQuiet 47 = .ok (.if_icmp .ne 17, 3) := by decide +kernel
theorem dX2_passQuiet_50 : decode cX2_passQuiet 50 = .ok (.aload_n 0, 1) := by decide +kernel
theorem dX2_passQuiet_51 : decode cX2_passQuiet 51 = .ok (.getfield 23, 3) := by decide +kernel
theorem dX2_passQuiet_54 : decode cX2_passQuiet 54 = .ok (.aload 4, 2) := by decide +kernel
theorem dX2_passQuiet_56 : decode cX2_passQuiet 56 = .ok (.invokevirtual 244, 3) := by decide +kernel
theorem dX2_passQuiet_59 : decode cX2_passQuiet 59 = .ok (.dup2, 1) := by decide +kernel
theorem dX2_passQuiet_60 : decode cX2_passQuiet 60 = .ok (.iaload, 1) := by decide +kernel
theorem dX2_passQuiet_61 : decode cX2_passQuiet 61 = .ok (.iconst 1, 1) := by decide +kernel
theorem dX2_passQuiet_62 : decode cX2_passQuiet 62 = .ok (.iadd, 1) := by decide +kernel
theorem dX2_passQuiet_63 : decode cX2_passQuiet 63 = .ok (.iastore, 1) := by decide +kernel
theorem dX2_passQuiet_64 : decode cX2_passQuiet 64 = .ok (.iinc 3 1, 3) := by decide +kernel
theorem dX2_passQuiet_67 : decode cX2_passQuiet 67 = .ok (.goto (-36), 3) := by decide +kernel
theorem dX2_passQuiet_70 : decode cX2_passQuiet 70 = .ok (.aload_n 0, 1) := by decide +kernel
theorem dX2_passQuiet_71 : decode cX2_passQuiet 71 = .ok (.getfield 11, 3) := by decide +kernel
theorem dX2_passQuiet_74 : decode cX2_passQuiet 74 = .ok (.astore_n 1, 1) := by decide +kernel
theorem dX2_passQuiet_75 : decode cX2_passQuiet 75 = .ok (.aload_n 1, 1) := by decide +kernel
theorem dX2_passQuiet_76 : decode cX2_passQuiet 76 = .ok (.arraylength, 1) := by decide +kernel
theorem dX2_passQuiet_77 : decode cX2_passQuiet 77 = .ok (.istore_n 2, 1) := by decide +kernel
theorem dX2_passQuiet_78 : decode cX2_passQuiet 78 = .ok (.iconst 0, 1) := by decide +kernel
theorem dX2_passQuiet_79 : decode cX2_passQuiet 79 = .ok (.istore_n 3, 1) := by decide +kernel
theorem dX2_passQuiet_80 : decode cX2_passQuiet 80 = .ok (.iload_n 3, 1) := by decide +kernel
theorem dX2_passQuiet_81 : decode cX2_passQuiet 81 = .ok (.iload_n 2, 1) := by decide +kernel
theorem dX2_passQuiet_82 : decode cX2_passQuiet 82 = .ok (.if_icmp .ge 57, 3) := by decide +kernel
theorem dX2_passQuiet_85 : decode cX2_passQuiet 85 = .ok (.aload_n 1, 1) := by decide +kernel
theorem dX2_passQuiet_86 : decode cX2_passQuiet 86 = .ok (.iload_n 3, 1) := by decide +kernel
theorem dX2_passQuiet_87 : decode cX2_passQuiet 87 = .ok (.aaload, 1) := by decide +kernel
theorem dX2_passQuiet_88 : decode cX2_passQuiet 88 = .ok (.astore 4, 2) := by decide +kernel
theorem dX2_passQuiet_90 : decode cX2_passQuiet 90 = .ok (.aload 4, 2) := by decide +kernel
theorem dX2_passQuiet_92 : decode cX2_passQuiet 92 = .ok (.getfield 58, 3) := by decide +kernel
theorem dX2_passQuiet_95 : decode cX2_passQuiet 95 = .ok (.iconst 1, 1) := by decide +kernel
theorem dX2_passQuiet_96 : decode cX2_passQuiet 96 = .ok (.if_icmp .ne 37, 3) := by decide +kernel
theorem dX2_passQuiet_99 : decode cX2_passQuiet 99 = .ok (.aload_n 0, 1) := by decide +kernel
theorem dX2_passQuiet_100 : decode cX2_passQuiet 100 = .ok (.getfield 23, 3) := by decide +kernel
theorem dX2_passQuiet_103 : decode cX2_passQuiet 103 = .ok (.aload 4, 2) := by decide +kernel
theorem dX2_passQuiet_105 : decode cX2_passQuiet 105 = .ok (.invokevirtual 244, 3) := by decide +kernel
theorem dX2_passQuiet_108 : decode cX2_passQuiet 108 = .ok (.iaload, 1) := by decide +kernel
theorem dX2_passQuiet_109 : decode cX2_passQuiet 109 = .ok (.iconst 1, 1) := by decide +kernel
theorem dX2_passQuiet_110 : decode cX2_passQuiet 110 = .ok (.if_icmp .ne 12, 3) := by decide +kernel
theorem dX2_passQuiet_113 : decode cX2_passQuiet 113 = .ok (.aload 4, 2) := by decide +kernel
theorem dX2_passQuiet_115 : decode cX2_passQuiet 115 = .ok (.iconst 2, 1) := by decide +kernel
theorem dX2_passQuiet_116 : decode cX2_passQuiet 116 = .ok (.putfield 58, 3) := by decide +kernel
theorem dX2_passQuiet_119 : decode cX2_passQuiet 119 = .ok (.goto 14, 3) := by decide +kernel
theorem dX2_passQuiet_122 : decode cX2_passQuiet 122 = .ok (.aload 4, 2) := by decide +kernel
theorem dX2_passQuiet_124 : decode cX2_passQuiet 124 = .ok (.dup, 1) := by decide +kernel
theorem dX2_passQuiet_125 : decode cX2_passQuiet 125 = .ok (.getfield 197, 3) := by decide +kernel
theorem dX2_passQuiet_128 : decode cX2_passQuiet 128 = .ok (.iconst 1, 1) := by decide +kernel
theorem dX2_passQuiet_129 : decode cX2_passQuiet 129 = .ok (.iadd, 1) := by decide +kernel
theorem dX2_passQuiet_130 : decode cX2_passQuiet 130 = .ok (.putfield 197, 3) := by decide +kernel
theorem dX2_passQuiet_133 : decode cX2_passQuiet 133 = .ok (.iinc 3 1, 3) := by decide +kernel
theorem dX2_passQuiet_136 : decode cX2_passQuiet 136 = .ok (.goto (-56), 3) := by decide +kernel
theorem dX2_passQuiet_139 : decode cX2_passQuiet 139 = .ok (.return_, 1) := by decide +kernel
theorem dX2_watchErrors_0 : decode cX2_watchErrors 0 = .ok (.aload_n 0, 1) := by decide +kernel
theorem dX2_watchErrors_1 : decode cX2_watchErrors 1 = .ok (.getfield 11, 3) := by decide +kernel
theorem dX2_watchErrors_4 : decode cX2_watchErrors 4 = .ok (.astore_n 1, 1) := by decide +kernel
theorem dX2_watchErrors_5 : decode cX2_watchErrors 5 = .ok (.aload_n 1, 1) := by decide +kernel
theorem dX2_watchErrors_6 : decode cX2_watchErrors 6 = .ok (.arraylength, 1) := by decide +kernel
theorem dX2_watchErrors_7 : decode cX2_watchErrors 7 = .ok (.istore_n 2, 1) := by decide +kernel
theorem dX2_watchErrors_8 : decode cX2_watchErrors 8 = .ok (.iconst 0, 1) := by decide +kernel
theorem dX2_watchErrors_9 : decode cX2_watchErrors 9 = .ok (.istore_n 3, 1) := by decide +kernel
theorem dX2_watchErrors_10 : decode cX2_watchErrors 10 = .ok (.iload_n 3, 1) := by decide +kernel
theorem dX2_watchErrors_11 : decode cX2_watchErrors 11 = .ok (.iload_n 2, 1) := by decide +kernel
theorem dX2_watchErrors_12 : decode cX2_watchErrors 12 = .ok (.if_icmp .ge 65, 3) := by decide +kernel
theorem dX2_watchErrors_15 : decode cX2_watchErrors 15 = .ok (.aload_n 1, 1) := by decide +kernel
theorem dX2_watchErrors_16 : decode cX2_watchErrors 16 = .ok (.iload_n 3, 1) := by decide +kernel
theorem dX2_watchErrors_17 : decode cX2_watchErrors 17 = .ok (.aaload, 1) := by decide +kernel
theorem dX2_watchErrors_18 : decode cX2_watchErrors 18 = .ok (.astore 4, 2) := by decide +kernel
theorem dX2_watchErrors_20 : decode cX2_watchErrors 20 = .ok (.aload 4, 2) := by decide +kernel
theorem dX2_watchErrors_22 : decode cX2_watchErrors 22 = .ok (.getfield 101, 3) := by decide +kernel
theorem dX2_watchErrors_25 : decode cX2_watchErrors 25 = .ok (.invokestatic 247, 3) := by decide +kernel
theorem dX2_watchErrors_28 : decode cX2_watchErrors 28 = .ok (.istore 5, 2) := by decide +kernel
theorem dX2_watchErrors_30 : decode cX2_watchErrors 30 = .ok (.iload 5, 2) := by decide +kernel
theorem dX2_watchErrors_32 : decode cX2_watchErrors 32 = .ok (.bipush 8, 2) := by decide +kernel
theorem dX2_watchErrors_34 : decode cX2_watchErrors 34 = .ok (.if_icmp .le 25, 3) := by decide +kernel
theorem dX2_watchErrors_37 : decode cX2_watchErrors 37 = .ok (.aload 4, 2) := by decide +kernel
theorem dX2_watchErrors_39 : decode cX2_watchErrors 39 = .ok (.iconst 1, 1) := by decide +kernel
theorem dX2_watchErrors_40 : decode cX2_watchErrors 40 = .ok (.putfield 58, 3) := by decide +kernel
theorem dX2_watchErrors_43 : decode cX2_watchErrors 43 = .ok (.aload 4, 2) := by decide +kernel
theorem dX2_watchErrors_45 : decode cX2_watchErrors 45 = .ok (.iconst 0, 1) := by decide +kernel
theorem dX2_watchErrors_46 : decode cX2_watchErrors 46 = .ok (.putfield 197, 3) := by decide +kernel
theorem dX2_watchErrors_49 : decode cX2_watchErrors 49 = .ok (.aload_n 0, 1) := by decide +kernel
theorem dX2_watchErrors_50 : decode cX2_watchErrors 50 = .ok (.dup, 1) := by decide +kernel
theorem dX2_watchErrors_51 : decode cX2_watchErrors 51 = .ok (.getfield 229, 3) := by decide +kernel
theorem dX2_watchErrors_54 : decode cX2_watchErrors 54 = .ok (.iconst 1, 1) := by decide +kernel
theorem dX2_watchErrors_55 : decode cX2_watchErrors 55 = .ok (.iadd, 1) := by decide +kernel
theorem dX2_watchErrors_56 : decode cX2_watchErrors 56 = .ok (.putfield 229, 3) := by decide +kernel
theorem dX2_watchErrors_59 : decode cX2_watchErrors 59 = .ok (.iload 5, 2) := by decide +kernel
theorem dX2_watchErrors_61 : decode cX2_watchErrors 61 = .ok (.iconst 4, 1) := by decide +kernel
theorem dX2_watchErrors_62 : decode cX2_watchErrors 62 = .ok (.if_icmp .le 9, 3) := by decide +kernel
theorem dX2_watchErrors_65 : decode cX2_watchErrors 65 = .ok (.aload 4, 2) := by decide +kernel
theorem dX2_watchErrors_67 : decode cX2_watchErrors 67 = .ok (.iconst 0, 1) := by decide +kernel
theorem dX2_watchErrors_68 : decode cX2_watchErrors 68 = .ok (.putfield 101, 3) := by decide +kernel
theorem dX2_watchErrors_71 : decode cX2_watchErrors 71 = .ok (.iinc 3 1, 3) := by decide +kernel
theorem dX2_watchErrors_74 : decode cX2_watchErrors 74 = .ok (.goto (-64), 3) := by decide +kernel
theorem dX2_watchErrors_77 : decode cX2_watchErrors 77 = .ok (.return_, 1) := by decide +kernel
set_option maxRecDepth 20000 in
theorem ggX2_makeMap_X0_giveContracted : GoodIn wsX2_makeMap wsX0_giveContracted := goodIn_r _ [10, 11, 12, 13, 14, 15, 16, 17, 18, 19, 20, 21, 22, 74, 75, 76, 77, 78, 79, 80, 81, 82, 83, 84] (by decide +kernel) (by decide +kernel)
set_option maxRecDepth 20000 in
theorem gX2_makeMap_X0_giveContracted : GoodIn wsX2_makeMap (wsV RX2 253 RX0 yX0_giveContracted wsX0_giveContracted) := goodIn_app (goodIn_of _ (by decide +kernel)) ggX2_makeMap_X0_giveContracted
set_option maxRecDepth 20000 in
theorem ggX2_makeMap_X2_giveSpare : GoodIn wsX2_makeMap wsX2_giveSpare := goodIn_r _ [27, 4, 28, 29, 30, 31, 26, 32, 1, 2, 3, 33, 34, 35, 9, 36, 22, 37, 14, 38, 39, 40, 41, 11, 42, 74, 75, 76, 77, 78, 79, 80, 81, 82, 83, 84, 43, 44, 45, 46, 47, 48, 49, 50, 51, 52, 53, 54, 55, 56, 57, 58, 59, 60, 61, 62, 63, 64, 65, 66, 67, 68, 69, 70, 71, 72, 73] (by decide +kernel) (by decide +kernel)
set_option maxRecDepth 20000 in
theorem gX2_makeMap_X2_giveSpare : GoodIn wsX2_makeMap (wsV RX2 257 RX2 yX2_giveSpare wsX2_giveSpare) := goodIn_app (goodIn_of _ (by decide +kernel)) ggX2_makeMap_X2_giveSpare
theorem dX2_makeMap_0 : decode cX2_makeMap 0 = .ok (.bipush 60, 2) := by decide +kernel
theorem dX2_makeMap_2 : decode cX2_makeMap 2 = .ok (.istore_n 1, 1) := by decide +kernel
theorem dX2_makeMap_3 : decode cX2_makeMap 3 = .ok (.aload_n 0, 1) := by decide +kernel
theorem dX2_makeMap_4 : decode cX2_makeMap 4 = .ok (.getfield 11, 3) := by decide +kernel
theorem dX2_makeMap_7 : decode cX2_makeMap 7 = .ok (.astore_n 2, 1) := by decide +kernel
theorem dX2_makeMap_8 : decode cX2_makeMap 8 = .ok (.aload_n 2, 1) := by decide +kernel
theorem dX2_makeMap_9 : decode cX2_makeMap 9 = .ok (.arraylength, 1) := by decide +kernel
theorem dX2_makeMap_10 : decode cX2_makeMap 10 = .ok (.istore_n 3, 1) := by decide +kernel
theorem dX2_makeMap_11 : decode cX2_makeMap 11 = .ok (.iconst 0, 1) := by decide +kernel
theorem dX2_makeMap_12 : decode cX2_makeMap 12 = .ok (.istore 4, 2) := by decide +kernel
theorem dX2_makeMap_14 : decode cX2_makeMap 14 = .ok (.iload 4, 2) := by decide +kernel
theorem dX2_makeMap_16 : decode cX2_makeMap 16 = .ok (.iload_n 3, 1) := by decide +kernel
theorem dX2_makeMap_17 : decode cX2_makeMap 17 = .ok (.if_icmp .ge 89, 3) := by decide +kernel
theorem dX2_makeMap_20 : decode cX2_makeMap 20 = .ok (.aload_n 2, 1) := by decide +kernel
theorem dX2_makeMap_21 : decode cX2_makeMap 21 = .ok (.iload 4, 2) := by decide +kernel
theorem dX2_makeMap_23 : decode cX2_makeMap 23 = .ok (.aaload, 1) := by decide +kernel
theorem dX2_makeMap_24 : decode cX2_makeMap 24 = .ok (.astore 5, 2) := by decide +kernel
theorem dX2_makeMap_26 : decode cX2_makeMap 26 = .ok (.aload 5, 2) := by decide +kernel
theorem dX2_makeMap_28 : decode cX2_makeMap 28 = .ok (.getfield 58, 3) := by decide +kernel
theorem dX2_makeMap_31 : decode cX2_makeMap 31 = .ok (.iconst 2, 1) := by decide +kernel
theorem dX2_makeMap_32 : decode cX2_makeMap 32 = .ok (.if_icmp .ne 7, 3) := by decide +kernel
theorem dX2_makeMap_35 : decode cX2_makeMap 35 = .ok (.iconst 1, 1) := by decide +kernel
theorem dX2_makeMap_36 : decode cX2_makeMap 36 = .ok (.goto 4, 3) := by decide +kernel
theorem dX2_makeMap_39 : decode cX2_makeMap 39 = .ok (.iconst 0, 1) := by decide +kernel
theorem dX2_makeMap_40 : decode cX2_makeMap 40 = .ok (.istore 6, 2) := by decide +kernel
theorem dX2_makeMap_42 : decode cX2_makeMap 42 = .ok (.iload 6, 2) := by decide +kernel
theorem dX2_makeMap_44 : decode cX2_makeMap 44 = .ok (.ifCond .eq 6, 3) := by decide +kernel
theorem dX2_makeMap_47 : decode cX2_makeMap 47 = .ok (.iinc 1 (-1), 3) := by decide +kernel
theorem dX2_makeMap_50 : decode cX2_makeMap 50 = .ok (.aload 5, 2) := by decide +kernel
theorem dX2_makeMap_52 : decode cX2_makeMap 52 = .ok (.getfield 240, 3) := by decide +kernel
theorem dX2_makeMap_55 : decode cX2_makeMap 55 = .ok (.astore 7, 2) := by decide +kernel
theorem dX2_makeMap_57 : decode cX2_makeMap 57 = .ok (.aload 7, 2) := by decide +kernel
theorem dX2_makeMap_59 : decode cX2_makeMap 59 = .ok (.arraylength, 1) := by decide +kernel
theorem dX2_makeMap_60 : decode cX2_makeMap 60 = .ok (.istore 8, 2) := by decide +kernel
theorem dX2_makeMap_62 : decode cX2_makeMap 62 = .ok (.iconst 0, 1) := by decide +kernel
theorem dX2_makeMap_63 : decode cX2_makeMap 63 = .ok (.istore 9, 2) := by decide +kernel
theorem dX2_makeMap_65 : decode cX2_makeMap 65 = .ok (.iload 9, 2) := by decide +kernel
theorem dX2_makeMap_67 : decode cX2_makeMap 67 = .ok (.iload 8, 2) := by decide +kernel
theorem dX2_makeMap_69 : decode cX2_makeMap 69 = .ok (.if_icmp .ge 31, 3) := by decide +kernel
theorem dX2_makeMap_72 : decode cX2_makeMap 72 = .ok (.aload 7, 2) := by decide +kernel
theorem dX2_makeMap_74 : decode cX2_makeMap 74 = .ok (.iload 9, 2) := by decide +kernel
theorem dX2_makeMap_76 : decode cX2_makeMap 76 = .ok (.aaload, 1) := by decide +kernel
theorem dX2_makeMap_77 : decode cX2_makeMap 77 = .ok (.astore 10, 2) := by decide +kernel
theorem dX2_makeMap_79 : decode cX2_makeMap 79 = .ok (.aload 10, 2) := by decide +kernel
theorem dX2_makeMap_81 : decode cX2_makeMap 81 = .ok (.iload 6, 2) := by decide +kernel
theorem dX2_makeMap_83 : decode cX2_makeMap 83 = .ok (.invokevirtual 253, 3) := by decide +kernel
theorem dX2_makeMap_86 : decode cX2_makeMap 86 = .ok (.iload_n 1, 1) := by decide +kernel
theorem dX2_makeMap_87 : decode cX2_makeMap 87 = .ok (.aload 10, 2) := by decide +kernel
theorem dX2_makeMap_89 : decode cX2_makeMap 89 = .ok (.getfield 212, 3) := by decide +kernel
theorem dX2_makeMap_92 : decode cX2_makeMap 92 = .ok (.isub, 1) := by decide +kernel
theorem dX2_makeMap_93 : decode cX2_makeMap 93 = .ok (.istore_n 1, 1) := by decide +kernel
theorem dX2_makeMap_94 : decode cX2_makeMap 94 = .ok (.iinc 9 1, 3) := by decide +kernel
theorem dX2_makeMap_97 : decode cX2_makeMap 97 = .ok (.goto (-32), 3) := by decide +kernel
theorem dX2_makeMap_100 : decode cX2_makeMap 100 = .ok (.iinc 4 1, 3) := by decide +kernel
theorem dX2_makeMap_103 : decode cX2_makeMap 103 = .ok (.goto (-89), 3) := by decide +kernel
theorem dX2_makeMap_106 : decode cX2_makeMap 106 = .ok (.aload_n 0, 1) := by decide +kernel
theorem dX2_makeMap_107 : decode cX2_makeMap 107 = .ok (.aload_n 0, 1) := by decide +kernel
theorem dX2_makeMap_108 : decode cX2_makeMap 108 = .ok (.iload_n 1, 1) := by decide +kernel
theorem dX2_makeMap_109 : decode cX2_makeMap 109 = .ok (.invokevirtual 257, 3) := by decide +kernel
theorem dX2_makeMap_112 : decode cX2_makeMap 112 = .ok (.putfield 226, 3) := by decide +kernel
theorem dX2_makeMap_115 : decode cX2_makeMap 115 = .ok (.return_, 1) := by decide +kernel
set_option maxRecDepth 20000 in
theorem ggX2_giveSpare_X2_nextToGive : GoodIn wsX2_giveSpare wsX2_nextToGive := goodIn_r _ [7, 8, 9, 10, 11, 12, 13, 14, 15, 16, 17, 18, 19, 20, 21, 22, 23, 24, 36, 37, 38, 39, 40, 41, 42, 43, 44, 45, 46, 47, 48, 49, 50, 51, 52, 53, 54, 55, 56, 57, 58, 59, 60, 61, 62, 63, 64, 65, 66, 25, 26, 27, 28, 29, 30, 31, 32, 33, 34, 35] (by decide +kernel) (by decide +kernel)
set_option maxRecDepth 20000 in
theorem gX2_giveSpare_X2_nextToGive : GoodIn wsX2_giveSpare (wsV RX2 260 RX2 yX2_nextToGive wsX2_nextToGive) := goodIn_app (goodIn_of _ (by decide +kernel)) ggX2_giveSpare_X2_nextToGive
theorem dX2_giveSpare_0 : decode cX2_giveSpare 0 = .ok (.iload_n 1, 1) := by decide +kernel
theorem dX2_giveSpare_1 : decode cX2_giveSpare 1 = .ok (.istore_n 2, 1) := by decide +kernel
theorem dX2_giveSpare_2 : decode cX2_giveSpare 2 = .ok (.iload_n 2, 1) := by decide +kernel
theorem dX2_giveSpare_3 : decode cX2_giveSpare 3 = .ok (.ifCond .le 40, 3) := by decide +kernel
theorem dX2_giveSpare_6 : decode cX2_giveSpare 6 = .ok (.aload_n 0, 1) := by decide +kernel
theorem dX2_giveSpare_7 : decode cX2_giveSpare 7 = .ok (.invokevirtual 260, 3) := by decide +kernel
theorem dX2_giveSpare_10 : decode cX2_giveSpare 10 = .ok (.astore_n 3, 1) := by decide +kernel
theorem dX2_giveSpare_11 : decode cX2_giveSpare 11 = .ok (.aload_n 3, 1) := by decide +kernel
theorem dX2_giveSpare_12 : decode cX2_giveSpare 12 = .ok (.ifnonnull 5, 3) := by decide +kernel
theorem dX2_giveSpare_15 : decode cX2_giveSpare 15 = .ok (.iload_n 2, 1) := by decide +kernel
theorem dX2_giveSpare_16 : decode cX2_giveSpare 16 = .ok (.ireturn, 1) := by decide +kernel
theorem dX2_giveSpare_17 : decode cX2_giveSpare 17 = .ok (.aload_n 3, 1) := by decide +kernel
theorem dX2_giveSpare_18 : decode cX2_giveSpare 18 = .ok (.dup, 1) := by decide +kernel
theorem dX2_giveSpare_19 : decode cX2_giveSpare 19 = .ok (.getfield 212, 3) := by decide +kernel
theorem dX2_giveSpare_22 : decode cX2_giveSpare 22 = .ok (.iconst 1, 1) := by decide +kernel
theorem dX2_giveSpare_23 : decode cX2_giveSpare 23 = .ok (.iadd, 1) := by decide +kernel
theorem dX2_giveSpare_24 : decode cX2_giveSpare 24 = .ok (.putfield 212, 3) := by decide +kernel
theorem dX2_giveSpare_27 : decode cX2_giveSpare 27 = .ok (.aload_n 3, 1) := by decide +kernel
theorem dX2_giveSpare_28 : decode cX2_giveSpare 28 = .ok (.dup, 1) := by decide +kernel
theorem dX2_giveSpare_29 : decode cX2_giveSpare 29 = .ok (.getfield 264, 3) := by decide +kernel
theorem dX2_giveSpare_32 : decode cX2_giveSpare 32 = .ok (.iconst 1, 1) := by decide +kernel
theorem dX2_giveSpare_33 : decode cX2_giveSpare 33 = .ok (.iadd, 1) := by decide +kernel
theorem dX2_giveSpare_34 : decode cX2_giveSpare 34 = .ok (.putfield 264, 3) := by decide +kernel
theorem dX2_giveSpare_37 : decode cX2_giveSpare 37 = .ok (.iinc 2 (-1), 3) := by decide +kernel
theorem dX2_giveSpare_40 : decode cX2_giveSpare 40 = .ok (.goto (-38), 3) := by decide +kernel
theorem dX2_giveSpare_43 : decode cX2_giveSpare 43 = .ok (.iconst 0, 1) := by decide +kernel
theorem dX2_giveSpare_44 : decode cX2_giveSpare 44 = .ok (.ireturn, 1) := by decide +kernel
set_option maxRecDepth 20000 in
theorem ggX2_nextToGive_X0_wants : GoodIn wsX2_nextToGive wsX0_wants := goodIn_r _ [8, 9, 10, 11, 49, 50, 51, 52, 53, 54, 55, 56, 57, 58, 59] (by decide +kernel) (by decide +kernel)
set_option maxRecDepth 20000 in
theorem gX2_nextToGive_X0_wants : GoodIn wsX2_nextToGive (wsV RX2 267 RX0 yX0_wants wsX0_wants) := goodIn_app (goodIn_of _ (by decide +kernel)) ggX2_nextToGive_X0_wants
set_option maxRecDepth 20000 in
theorem ggX2_nextToGive_X0_hasLessSpareThan : GoodIn wsX2_nextToGive wsX0_hasLessSpareThan := goodIn_r _ [15, 16, 17, 49, 50, 51, 52, 53, 54, 55, 56, 57, 58, 59] (by decide +kernel) (by decide +kernel)
set_option maxRecDepth 20000 in
theorem gX2_nextToGive_X0_hasLessSpareThan : GoodIn wsX2_nextToGive (wsV RX2 271 RX0 yX0_hasLessSpareThan wsX0_hasLessSpareThan) := goodIn_app (goodIn_of _ (by decide +kernel)) ggX2_nextToGive_X0_hasLessSpareThan
theorem dX2_nextToGive_0 : decode cX2_nextToGive 0 = .ok (.aconst_null, 1) := by decide +kernel
theorem dX2_nextToGive_1 : decode cX2_nextToGive 1 = .ok (.astore_n 1, 1) := by decide +kernel
theorem dX2_nextToGive_2 : decode cX2_nextToGive 2 = .ok (.aload_n 0, 1) := by decide +kernel
theorem dX2_nextToGive_3 : decode cX2_nextToGive 3 = .ok (.getfield 11, 3) := by decide +kernel
theorem dX2_nextToGive_6 : decode cX2_nextToGive 6 = .ok (.astore_n 2, 1) := by decide +kernel
theorem dX2_nextToGive_7 : decode cX2_nextToGive 7 = .ok (.aload_n 2, 1) := by decide +kernel
theorem dX2_nextToGive_8 : decode cX2_nextToGive 8 = .ok (.arraylength, 1) := by decide +kernel
theorem dX2_nextToGive_9 : decode cX2_nextToGive 9 = .ok (.istore_n 3, 1) := by decide +kernel
theorem dX2_nextToGive_10 : decode cX2_nextToGive 10 = .ok (.iconst 0, 1) := by decide +kernel
theorem dX2_nextToGive_11 : decode cX2_nextToGive 11 = .ok (.istore 4, 2) := by decide +kernel
theorem dX2_nextToGive_13 : decode cX2_nextToGive 13 = .ok (.iload 4, 2) := by decide +kernel
theorem dX2_nextToGive_15 : decode cX2_nextToGive 15 = .ok (.iload_n 3, 1) := by decide +kernel
theorem dX2_nextToGive_16 : decode cX2_nextToGive 16 = .ok (.if_icmp .ge 83, 3) := by decide +kernel
theorem dX2_nextToGive_19 : decode cX2_nextToGive 19 = .ok (.aload_n 2, 1) := by decide +kernel
theorem dX2_nextToGive_20 : decode cX2_nextToGive 20 = .ok (.iload 4, 2) := by decide +kernel
theorem dX2_nextToGive_22 : decode cX2_nextToGive 22 = .ok (.aaload, 1) := by decide +kernel
theorem dX2_nextToGive_23 : decode cX2_nextToGive 23 = .ok (.astore 5, 2) := by decide +kernel
theorem dX2_nextToGive_25 : decode cX2_nextToGive 25 = .ok (.aload 5, 2) := by decide +kernel
theorem dX2_nextToGive_27 : decode cX2_nextToGive 27 = .ok (.getfield 58, 3) := by decide +kernel
theorem dX2_nextToGive_30 : decode cX2_nextToGive 30 = .ok (.iconst 2, 1) := by decide +kernel
theorem dX2_nextToGive_31 : decode cX2_nextToGive 31 = .ok (.if_icmp .ne 62, 3) := by decide +kernel
theorem dX2_nextToGive_34 : decode cX2_nextToGive 34 = .ok (.aload 5, 2) := by decide +kernel
theorem dX2_nextToGive_36 : decode cX2_nextToGive 36 = .ok (.getfield 240, 3) := by decide +kernel
theorem dX2_nextToGive_39 : decode cX2_nextToGive 39 = .ok (.astore 6, 2) := by decide +kernel
theorem dX2_nextToGive_41 : decode cX2_nextToGive 41 = .ok (.aload 6, 2) := by decide +kernel
theorem dX2_nextToGive_43 : decode cX2_nextToGive 43 = .ok (.arraylength, 1) := by decide +kernel
theorem dX2_nextToGive_44 : decode cX2_nextToGive 44 = .ok (.istore 7, 2) := by decide +kernel
theorem dX2_nextToGive_46 : decode cX2_nextToGive 46 = .ok (.iconst 0, 1) := by decide +kernel
theorem dX2_nextToGive_47 : decode cX2_nextToGive 47 = .ok (.istore 8, 2) := by decide +kernel
theorem dX2_nextToGive_49 : decode cX2_nextToGive 49 = .ok (.iload 8, 2) := by decide +kernel
theorem dX2_nextToGive_51 : decode cX2_nextToGive 51 = .ok (.iload 7, 2) := by decide +kernel
theorem dX2_nextToGive_53 : decode cX2_nextToGive 53 = .ok (.if_icmp .ge 40, 3) := by decide +kernel
theorem dX2_nextToGive_56 : decode cX2_nextToGive 56 = .ok (.aload 6, 2) := by decide +kernel
theorem dX2_nextToGive_58 : decode cX2_nextToGive 58 = .ok (.iload 8, 2) := by decide +kernel
theorem dX2_nextToGive_60 : decode cX2_nextToGive 60 = .ok (.aaload, 1) := by decide +kernel
theorem dX2_nextToGive_61 : decode cX2_nextToGive 61 = .ok (.astore 9, 2) := by decide +kernel
theorem dX2_nextToGive_63 : decode cX2_nextToGive 63 = .ok (.aload 9, 2) := by decide +kernel
theorem dX2_nextToGive_65 : decode cX2_nextToGive 65 = .ok (.invokevirtual 267, 3) := by decide +kernel
theorem dX2_nextToGive_68 : decode cX2_nextToGive 68 = .ok (.ifCond .eq 19, 3) := by decide +kernel
theorem dX2_nextToGive_71 : decode cX2_nextToGive 71 = .ok (.aload_n 1, 1) := by decide +kernel
theorem dX2_nextToGive_72 : decode cX2_nextToGive 72 = .ok (.ifnull 12, 3) := by decide +kernel
theorem dX2_nextToGive_75 : decode cX2_nextToGive 75 = .ok (.aload 9, 2) := by decide +kernel
theorem dX2_nextToGive_77 : decode cX2_nextToGive 77 = .ok (.aload_n 1, 1) := by decide +kernel
theorem dX2_nextToGive_78 : decode cX2_nextToGive 78 = .ok (.invokevirtual 271, 3) := by decide +kernel
theorem dX2_nextToGive_81 : decode cX2_nextToGive 81 = .ok (.ifCond .eq 6, 3) := by decide +kernel
theorem dX2_nextToGive_84 : decode cX2_nextToGive 84 = .ok (.aload 9, 2) := by decide +kernel
theorem dX2_nextToGive_86 : decode cX2_nextToGive 86 = .ok (.astore_n 1, 1) := by decide +kernel
theorem dX2_nextToGive_87 : decode cX2_nextToGive 87 = .ok (.iinc 8 1, 3) := by decide +kernel
theorem dX2_nextToGive_90 : decode cX2_nextToGive 90 = .ok (.goto (-41), 3) := by decide +kernel
theorem dX2_nextToGive_93 : decode cX2_nextToGive 93 = .ok (.iinc 4 1, 3) := by decide +kernel
theorem dX2_nextToGive_96 : decode cX2_nextToGive 96 = .ok (.goto (-83), 3) := by decide +kernel
theorem dX2_nextToGive_99 : decode cX2_nextToGive 99 = .ok (.aload_n 1, 1) := by decide +kernel
theorem dX2_nextToGive_100 : decode cX2_nextToGive 100 = .ok (.areturn, 1) := by decide +kernel
set_option maxRecDepth 20000 in
theorem ggX2_layBursts_X1_burstLength : GoodIn wsX2_layBursts wsX1_burstLength := goodIn_r _ [10, 11, 12, 29, 30, 31, 32, 33, 34, 35, 36, 37, 38, 39, 40, 41, 42, 43, 44, 45, 46, 47, 48, 49, 50, 51, 52, 53, 54] (by decide +kernel) (by decide +kernel)
set_option maxRecDepth 20000 in
theorem gX2_layBursts_X1_burstLength : GoodIn wsX2_layBursts (wsV RX2 275 RX1 yX1_burstLength wsX1_burstLength) := goodIn_app (goodIn_of _ (by decide +kernel)) ggX2_layBursts_X1_burstLength
theorem dX2_layBursts_0 : decode cX2_layBursts 0 = .ok (.iconst 0, 1) := by decide +kernel
theorem dX2_layBursts_1 : decode cX2_layBursts 1 = .ok (.istore_n 1, 1) := by decide +kernel
theorem dX2_layBursts_2 : decode cX2_layBursts 2 = .ok (.iconst 0, 1) := by decide +kernel
theorem dX2_layBursts_3 : decode cX2_layBursts 3 = .ok (.istore_n 2, 1) := by decide +kernel
theorem dX2_layBursts_4 : decode cX2_layBursts 4 = .ok (.iload_n 2, 1) := by decide +kernel
theorem dX2_layBursts_5 : decode cX2_layBursts 5 = .ok (.iconst 5, 1) := by decide +kernel
theorem dX2_layBursts_6 : decode cX2_layBursts 6 = .ok (.if_icmp .ge 74, 3) := by decide +kernel
theorem dX2_layBursts_9 : decode cX2_layBursts 9 = .ok (.aload_n 0, 1) := by decide +kernel
theorem dX2_layBursts_10 : decode cX2_layBursts 10 = .ok (.getfield 11, 3) := by decide +kernel
theorem dX2_layBursts_13 : decode cX2_layBursts 13 = .ok (.iload_n 2, 1) := by decide +kernel
theorem dX2_layBursts_14 : decode cX2_layBursts 14 = .ok (.aaload, 1) := by decide +kernel
theorem dX2_layBursts_15 : decode cX2_layBursts 15 = .ok (.astore_n 3, 1) := by decide +kernel
theorem dX2_layBursts_16 : decode cX2_layBursts 16 = .ok (.aload_n 3, 1) := by decide +kernel
theorem dX2_layBursts_17 : decode cX2_layBursts 17 = .ok (.getfield 58, 3) := by decide +kernel
theorem dX2_layBursts_20 : decode cX2_layBursts 20 = .ok (.iconst 2, 1) := by decide +kernel
theorem dX2_layBursts_21 : decode cX2_layBursts 21 = .ok (.if_icmp .ne 10, 3) := by decide +kernel
theorem dX2_layBursts_24 : decode cX2_layBursts 24 = .ok (.aload_n 3, 1) := by decide +kernel
theorem dX2_layBursts_25 : decode cX2_layBursts 25 = .ok (.invokevirtual 275, 3) := by decide +kernel
theorem dX2_layBursts_28 : decode cX2_layBursts 28 = .ok (.goto 4, 3) := by decide +kernel
theorem dX2_layBursts_31 : decode cX2_layBursts 31 = .ok (.iconst 0, 1) := by decide +kernel
theorem dX2_layBursts_32 : decode cX2_layBursts 32 = .ok (.istore 4, 2) := by decide +kernel
theorem dX2_layBursts_34 : decode cX2_layBursts 34 = .ok (.aload_n 0, 1) := by decide +kernel
theorem dX2_layBursts_35 : decode cX2_layBursts 35 = .ok (.getfield 26, 3) := by decide +kernel
theorem dX2_layBursts_38 : decode cX2_layBursts 38 = .ok (.iload_n 2, 1) := by decide +kernel
theorem dX2_layBursts_39 : decode cX2_layBursts 39 = .ok (.iload_n 1, 1) := by decide +kernel
theorem dX2_layBursts_40 : decode cX2_layBursts 40 = .ok (.aload_n 3, 1) := by decide +kernel
theorem dX2_layBursts_41 : decode cX2_layBursts 41 = .ok (.getfield 101, 3) := by decide +kernel
theorem dX2_layBursts_44 : decode cX2_layBursts 44 = .ok (.iadd, 1) := by decide +kernel
theorem dX2_layBursts_45 : decode cX2_layBursts 45 = .ok (.iastore, 1) := by decide +kernel
theorem dX2_layBursts_46 : decode cX2_layBursts 46 = .ok (.aload_n 0, 1) := by decide +kernel
theorem dX2_layBursts_47 : decode cX2_layBursts 47 = .ok (.getfield 29, 3) := by decide +kernel
theorem dX2_layBursts_50 : decode cX2_layBursts 50 = .ok (.iload_n 2, 1) := by decide +kernel
theorem dX2_layBursts_51 : decode cX2_layBursts 51 = .ok (.aload_n 0, 1) := by decide +kernel
theorem dX2_layBursts_52 : decode cX2_layBursts 52 = .ok (.getfield 26, 3) := by decide +kernel
theorem dX2_layBursts_55 : decode cX2_layBursts 55 = .ok (.iload_n 2, 1) := by decide +kernel
theorem dX2_layBursts_56 : decode cX2_layBursts 56 = .ok (.iaload, 1) := by decide +kernel
theorem dX2_layBursts_57 : decode cX2_layBursts 57 = .ok (.iload 4, 2) := by decide +kernel
theorem dX2_layBursts_59 : decode cX2_layBursts 59 = .ok (.iadd, 1) := by decide +kernel
theorem dX2_layBursts_60 : decode cX2_layBursts 60 = .ok (.iastore, 1) := by decide +kernel
theorem dX2_layBursts_61 : decode cX2_layBursts 61 = .ok (.iload 4, 2) := by decide +kernel
theorem dX2_layBursts_63 : decode cX2_layBursts 63 = .ok (.ifCond .le 11, 3) := by decide +kernel
theorem dX2_layBursts_66 : decode cX2_layBursts 66 = .ok (.iload_n 1, 1) := by decide +kernel
theorem dX2_layBursts_67 : decode cX2_layBursts 67 = .ok (.iload 4, 2) := by decide +kernel
theorem dX2_layBursts_69 : decode cX2_layBursts 69 = .ok (.bipush 32, 2) := by decide +kernel
theorem dX2_layBursts_71 : decode cX2_layBursts 71 = .ok (.iadd, 1) := by decide +kernel
theorem dX2_layBursts_72 : decode cX2_layBursts 72 = .ok (.iadd, 1) := by decide +kernel
theorem dX2_layBursts_73 : decode cX2_layBursts 73 = .ok (.istore_n 1, 1) := by decide +kernel
theorem dX2_layBursts_74 : decode cX2_layBursts 74 = .ok (.iinc 2 1, 3) := by decide +kernel
theorem dX2_layBursts_77 : decode cX2_layBursts 77 = .ok (.goto (-73), 3) := by decide +kernel
theorem dX2_layBursts_80 : decode cX2_layBursts 80 = .ok (.return_, 1) := by decide +kernel
theorem dX2_countMeetings_0 : decode cX2_countMeetings 0 = .ok (.iconst 0, 1) := by decide +kernel
theorem dX2_countMeetings_1 : decode cX2_countMeetings 1 = .ok (.istore_n 1, 1) := by decide +kernel
theorem dX2_countMeetings_2 : decode cX2_countMeetings 2 = .ok (.iload_n 1, 1) := by decide +kernel
theorem dX2_countMeetings_3 : decode cX2_countMeetings 3 = .ok (.iconst 5, 1) := by decide +kernel
theorem dX2_countMeetings_4 : decode cX2_countMeetings 4 = .ok (.if_icmp .ge 67, 3) := by decide +kernel
theorem dX2_countMeetings_7 : decode cX2_countMeetings 7 = .ok (.iload_n 1, 1) := by decide +kernel
theorem dX2_countMeetings_8 : decode cX2_countMeetings 8 = .ok (.iconst 1, 1) := by decide +kernel
theorem dX2_countMeetings_9 : decode cX2_countMeetings 9 = .ok (.iadd, 1) := by decide +kernel
theorem dX2_countMeetings_10 : decode cX2_countMeetings 10 = .ok (.istore_n 2, 1) := by decide +kernel
theorem dX2_countMeetings_11 : decode cX2_countMeetings 11 = .ok (.iload_n 2, 1) := by decide +kernel
theorem dX2_countMeetings_12 : decode cX2_countMeetings 12 = .ok (.iconst 5, 1) := by decide +kernel
theorem dX2_countMeetings_13 : decode cX2_countMeetings 13 = .ok (.if_icmp .ge 52, 3) := by decide +kernel
theorem dX2_countMeetings_16 : decode cX2_countMeetings 16 = .ok (.aload_n 0, 1) := by decide +kernel
theorem dX2_countMeetings_17 : decode cX2_countMeetings 17 = .ok (.getfield 26, 3) := by decide +kernel
theorem dX2_countMeetings_20 : decode cX2_countMeetings 20 = .ok (.iload_n 1, 1) := by decide +kernel
theorem dX2_countMeetings_21 : decode cX2_countMeetings 21 = .ok (.iaload, 1) := by decide +kernel
theorem dX2_countMeetings_22 : decode cX2_countMeetings 22 = .ok (.aload_n 0, 1) := by decide +kernel
theorem dX2_countMeetings_23 : decode cX2_countMeetings 23 = .ok (.getfield 26, 3) := by decide +kernel
theorem dX2_countMeetings_26 : decode cX2_countMeetings 26 = .ok (.iload_n 2, 1) := by decide +kernel
theorem dX2_countMeetings_27 : decode cX2_countMeetings 27 = .ok (.iaload, 1) := by decide +kernel
theorem dX2_countMeetings_28 : decode cX2_countMeetings 28 = .ok (.invokestatic 278, 3) := by decide +kernel
theorem dX2_countMeetings_31 : decode cX2_countMeetings 31 = .ok (.aload_n 0, 1) := by decide +kernel
theorem dX2_countMeetings_32 : decode cX2_countMeetings 32 = .ok (.getfield 29, 3) := by decide +kernel
theorem dX2_countMeetings_35 : decode cX2_countMeetings 35 = .ok (.iload_n 1, 1) := by decide +kernel
theorem dX2_countMeetings_36 : decode cX2_countMeetings 36 = .ok (.iaload, 1) := by decide +kernel
theorem dX2_countMeetings_37 : decode cX2_countMeetings 37 = .ok (.aload_n 0, 1) := by decide +kernel
theorem dX2_countMeetings_38 : decode cX2_countMeetings 38 = .ok (.getfield 29, 3) := by decide +kernel
theorem dX2_countMeetings_41 : decode cX2_countMeetings 41 = .ok (.iload_n 2, 1) := by decide +kernel
theorem dX2_countMeetings_42 : decode cX2_countMeetings 42 = .ok (.iaload, 1) := by decide +kernel
theorem dX2_countMeetings_43 : decode cX2_countMeetings 43 = .ok (.invokestatic 282, 3) := by decide +kernel
theorem dX2_countMeetings_46 : decode cX2_countMeetings 46 = .ok (.if_icmp .ge 13, 3) := by decide +kernel
theorem dX2_countMeetings_49 : decode cX2_countMeetings 49 = .ok (.aload_n 0, 1) := by decide +kernel
theorem dX2_countMeetings_50 : decode cX2_countMeetings 50 = .ok (.dup, 1) := by decide +kernel
theorem dX2_countMeetings_51 : decode cX2_countMeetings 51 = .ok (.getfield 223, 3) := by decide +kernel
theorem dX2_countMeetings_54 : decode cX2_countMeetings 54 = .ok (.iconst 1, 1) := by decide +kernel
theorem dX2_countMeetings_55 : decode cX2_countMeetings 55 = .ok (.iadd, 1) := by decide +kernel
theorem dX2_countMeetings_56 : decode cX2_countMeetings 56 = .ok (.putfield 223, 3) := by decide +kernel
theorem dX2_countMeetings_59 : decode cX2_countMeetings 59 = .ok (.iinc 2 1, 3) := by decide +kernel
theorem dX2_countMeetings_62 : decode cX2_countMeetings 62 = .ok (.goto (-51), 3) := by decide +kernel
theorem dX2_countMeetings_65 : decode cX2_countMeetings 65 = .ok (.iinc 1 1, 3) := by decide +kernel
theorem dX2_countMeetings_68 : decode cX2_countMeetings 68 = .ok (.goto (-66), 3) := by decide +kernel
theorem dX2_countMeetings_71 : decode cX2_countMeetings 71 = .ok (.return_, 1) := by decide +kernel
set_option maxRecDepth 20000 in
theorem ggX2_sendBlocks_X2_sendFrom : GoodIn wsX2_sendBlocks wsX2_sendFrom := goodIn_r _ [10, 1, 4, 11, 12, 13, 14, 15, 16, 17, 18, 19, 20, 21, 22, 23, 24, 25, 26, 9, 27, 28, 29, 30, 31, 32, 33, 34, 35, 36, 41, 42, 43, 44, 45, 46, 47, 48, 49, 50, 51, 52, 53, 54, 55, 56, 57, 58, 59, 60, 61, 62, 63, 64, 65, 66, 67, 68, 69, 70, 71, 72, 73, 74, 75, 76, 77, 78, 79, 80, 81, 82] (by decide +kernel) (by decide +kernel)
set_option maxRecDepth 20000 in
theorem gX2_sendBlocks_X2_sendFrom : GoodIn wsX2_sendBlocks (wsV RX2 285 RX2 yX2_sendFrom wsX2_sendFrom) := goodIn_app (goodIn_of _ (by decide +kernel)) ggX2_sendBlocks_X2_sendFrom
set_option maxRecDepth 20000 in
theorem ggX2_sendBlocks_X0_load : GoodIn wsX2_sendBlocks wsX0_load := goodIn_r _ [40, 35, 22, 72, 73, 74, 75, 76, 77, 78, 79, 80, 81, 82] (by decide +kernel) (by decide +kernel)
set_option maxRecDepth 20000 in
theorem gX2_sendBlocks_X0_load : GoodIn wsX2_sendBlocks (wsV RX2 206 RX0 yX0_load wsX0_load) := goodIn_app (goodIn_of _ (by decide +kernel)) ggX2_sendBlocks_X0_load
theorem dX2_sendBlocks_0 : decode cX2_sendBlocks 0 = .ok (.iconst 0, 1) := by decide +kernel
theorem dX2_sendBlocks_1 : decode cX2_sendBlocks 1 = .ok (.istore_n 1, 1) := by decide +kernel
theorem dX2_sendBlocks_2 : decode cX2_sendBlocks 2 = .ok (.iload_n 1, 1) := by decide +kernel
theorem dX2_sendBlocks_3 : decode cX2_sendBlocks 3 = .ok (.iconst 5, 1) := by decide +kernel
theorem dX2_sendBlocks_4 : decode cX2_sendBlocks 4 = .ok (.if_icmp .ge 70, 3) := by decide +kernel
theorem dX2_sendBlocks_7 : decode cX2_sendBlocks 7 = .ok (.aload_n 0, 1) := by decide +kernel
theorem dX2_sendBlocks_8 : decode cX2_sendBlocks 8 = .ok (.getfield 11, 3) := by decide +kernel
theorem dX2_sendBlocks_11 : decode cX2_sendBlocks 11 = .ok (.iload_n 1, 1) := by decide +kernel
theorem dX2_sendBlocks_12 : decode cX2_sendBlocks 12 = .ok (.aaload, 1) := by decide +kernel
theorem dX2_sendBlocks_13 : decode cX2_sendBlocks 13 = .ok (.astore_n 2, 1) := by decide +kernel
theorem dX2_sendBlocks_14 : decode cX2_sendBlocks 14 = .ok (.aload_n 2, 1) := by decide +kernel
theorem dX2_sendBlocks_15 : decode cX2_sendBlocks 15 = .ok (.getfield 58, 3) := by decide +kernel
theorem dX2_sendBlocks_18 : decode cX2_sendBlocks 18 = .ok (.iconst 2, 1) := by decide +kernel
theorem dX2_sendBlocks_19 : decode cX2_sendBlocks 19 = .ok (.if_icmp .ne 49, 3) := by decide +kernel
theorem dX2_sendBlocks_22 : decode cX2_sendBlocks 22 = .ok (.iconst 0, 1) := by decide +kernel
theorem dX2_sendBlocks_23 : decode cX2_sendBlocks 23 = .ok (.istore_n 3, 1) := by decide +kernel
theorem dX2_sendBlocks_24 : decode cX2_sendBlocks 24 = .ok (.iload_n 3, 1) := by decide +kernel
theorem dX2_sendBlocks_25 : decode cX2_sendBlocks 25 = .ok (.iconst 2, 1) := by decide +kernel
theorem dX2_sendBlocks_26 : decode cX2_sendBlocks 26 = .ok (.if_icmp .ge 42, 3) := by decide +kernel
theorem dX2_sendBlocks_29 : decode cX2_sendBlocks 29 = .ok (.aload_n 2, 1) := by decide +kernel
theorem dX2_sendBlocks_30 : decode cX2_sendBlocks 30 = .ok (.getfield 240, 3) := by decide +kernel
theorem dX2_sendBlocks_33 : decode cX2_sendBlocks 33 = .ok (.iload_n 3, 1) := by decide +kernel
theorem dX2_sendBlocks_34 : decode cX2_sendBlocks 34 = .ok (.aaload, 1) := by decide +kernel
theorem dX2_sendBlocks_35 : decode cX2_sendBlocks 35 = .ok (.astore 4, 2) := by decide +kernel
theorem dX2_sendBlocks_37 : decode cX2_sendBlocks 37 = .ok (.aload_n 0, 1) := by decide +kernel
theorem dX2_sendBlocks_38 : decode cX2_sendBlocks 38 = .ok (.aload 4, 2) := by decide +kernel
theorem dX2_sendBlocks_40 : decode cX2_sendBlocks 40 = .ok (.iload_n 1, 1) := by decide +kernel
theorem dX2_sendBlocks_41 : decode cX2_sendBlocks 41 = .ok (.iload_n 3, 1) := by decide +kernel
theorem dX2_sendBlocks_42 : decode cX2_sendBlocks 42 = .ok (.invokevirtual 285, 3) := by decide +kernel
theorem dX2_sendBlocks_45 : decode cX2_sendBlocks 45 = .ok (.aload_n 2, 1) := by decide +kernel
theorem dX2_sendBlocks_46 : decode cX2_sendBlocks 46 = .ok (.getfield 135, 3) := by decide +kernel
theorem dX2_sendBlocks_49 : decode cX2_sendBlocks 49 = .ok (.ifCond .ne 13, 3) := by decide +kernel
theorem dX2_sendBlocks_52 : decode cX2_sendBlocks 52 = .ok (.aload 4, 2) := by decide +kernel
theorem dX2_sendBlocks_54 : decode cX2_sendBlocks 54 = .ok (.aload 4, 2) := by decide +kernel
theorem dX2_sendBlocks_56 : decode cX2_sendBlocks 56 = .ok (.invokevirtual 206, 3) := by decide +kernel
theorem dX2_sendBlocks_59 : decode cX2_sendBlocks 59 = .ok (.putfield 209, 3) := by decide +kernel
theorem dX2_sendBlocks_62 : decode cX2_sendBlocks 62 = .ok (.iinc 3 1, 3) := by decide +kernel
theorem dX2_sendBlocks_65 : decode cX2_sendBlocks 65 = .ok (.goto (-41), 3) := by decide +kernel
theorem dX2_sendBlocks_68 : decode cX2_sendBlocks 68 = .ok (.iinc 1 1, 3) := by decide +kernel
theorem dX2_sendBlocks_71 : decode cX2_sendBlocks 71 = .ok (.goto (-69), 3) := by decide +kernel
theorem dX2_sendBlocks_74 : decode cX2_sendBlocks 74 = .ok (.return_, 1) := by decide +kernel
set_option maxRecDepth 20000 in
theorem ggX2_sendFrom_X0_sendBlock : GoodIn wsX2_sendFrom wsX0_sendBlock := goodIn_r _ [13, 14, 15, 61, 62, 63, 64, 65, 66, 67, 68, 69, 70, 71] (by decide +kernel) (by decide +kernel)
set_option maxRecDepth 20000 in
theorem gX2_sendFrom_X0_sendBlock : GoodIn wsX2_sendFrom (wsV RX2 289 RX0 yX0_sendBlock wsX0_sendBlock) := goodIn_app (goodIn_of _ (by decide +kernel)) ggX2_sendFrom_X0_sendBlock
set_option maxRecDepth 20000 in
theorem ggX2_sendFrom_X2_note : GoodIn wsX2_sendFrom wsX2_note := goodIn_r _ [20, 21, 22, 23, 30, 31, 32, 33, 34, 35, 36, 37, 38, 39, 40, 41, 42, 43, 44, 45] (by decide +kernel) (by decide +kernel)
set_option maxRecDepth 20000 in
theorem gX2_sendFrom_X2_note : GoodIn wsX2_sendFrom (wsV RX2 301 RX2 yX2_note wsX2_note) := goodIn_app (goodIn_of _ (by decide +kernel)) ggX2_sendFrom_X2_note
set_option maxRecDepth 20000 in
theorem ggX2_sendFrom_X0_dropFirst : GoodIn wsX2_sendFrom wsX0_dropFirst := goodIn_r _ [27, 28, 29, 14, 15, 61, 62, 63, 64, 65, 66, 67, 68, 69, 70, 71] (by decide +kernel) (by decide +kernel)
set_option maxRecDepth 20000 in
theorem gX2_sendFrom_X0_dropFirst : GoodIn wsX2_sendFrom (wsV RX2 305 RX0 yX0_dropFirst wsX0_dropFirst) := goodIn_app (goodIn_of _ (by decide +kernel)) ggX2_sendFrom_X0_dropFirst
theorem dX2_sendFrom_0 : decode cX2_sendFrom 0 = .ok (.aload_n 0, 1) := by decide +kernel
theorem dX2_sendFrom_1 : decode cX2_sendFrom 1 = .ok (.getfield 11, 3) := by decide +kernel
theorem dX2_sendFrom_4 : decode cX2_sendFrom 4 = .ok (.iload_n 2, 1) := by decide +kernel
theorem dX2_sendFrom_5 : decode cX2_sendFrom 5 = .ok (.aaload, 1) := by decide +kernel
theorem dX2_sendFrom_6 : decode cX2_sendFrom 6 = .ok (.getfield 135, 3) := by decide +kernel
theorem dX2_sendFrom_9 : decode cX2_sendFrom 9 = .ok (.istore 4, 2) := by decide +kernel
theorem dX2_sendFrom_11 : decode cX2_sendFrom 11 = .ok (.iconst 0, 1) := by decide +kernel
theorem dX2_sendFrom_12 : decode cX2_sendFrom 12 = .ok (.istore 5, 2) := by decide +kernel
theorem dX2_sendFrom_14 : decode cX2_sendFrom 14 = .ok (.iload 5, 2) := by decide +kernel
theorem dX2_sendFrom_16 : decode cX2_sendFrom 16 = .ok (.aload_n 1, 1) := by decide +kernel
theorem dX2_sendFrom_17 : decode cX2_sendFrom 17 = .ok (.getfield 212, 3) := by decide +kernel
theorem dX2_sendFrom_20 : decode cX2_sendFrom 20 = .ok (.if_icmp .ge 67, 3) := by decide +kernel
theorem dX2_sendFrom_23 : decode cX2_sendFrom 23 = .ok (.aload_n 1, 1) := by decide +kernel
theorem dX2_sendFrom_24 : decode cX2_sendFrom 24 = .ok (.getfield 106, 3) := by decide +kernel
theorem dX2_sendFrom_27 : decode cX2_sendFrom 27 = .ok (.ifCond .le 60, 3) := by decide +kernel
theorem dX2_sendFrom_30 : decode cX2_sendFrom 30 = .ok (.aload_n 1, 1) := by decide +kernel
theorem dX2_sendFrom_31 : decode cX2_sendFrom 31 = .ok (.iload 4, 2) := by decide +kernel
theorem dX2_sendFrom_33 : decode cX2_sendFrom 33 = .ok (.invokevirtual 289, 3) := by decide +kernel
theorem dX2_sendFrom_36 : decode cX2_sendFrom 36 = .ok (.aload_n 1, 1) := by decide +kernel
theorem dX2_sendFrom_37 : decode cX2_sendFrom 37 = .ok (.getfield 292, 3) := by decide +kernel
theorem dX2_sendFrom_40 : decode cX2_sendFrom 40 = .ok (.iconst 0, 1) := by decide +kernel
theorem dX2_sendFrom_41 : decode cX2_sendFrom 41 = .ok (.iaload, 1) := by decide +kernel
theorem dX2_sendFrom_42 : decode cX2_sendFrom 42 = .ok (.ifCond .ne 39, 3) := by decide +kernel
theorem dX2_sendFrom_45 : decode cX2_sendFrom 45 = .ok (.aload_n 1, 1) := by decide +kernel
theorem dX2_sendFrom_46 : decode cX2_sendFrom 46 = .ok (.getfield 295, 3) := by decide +kernel
theorem dX2_sendFrom_49 : decode cX2_sendFrom 49 = .ok (.ifCond .eq 16, 3) := by decide +kernel
theorem dX2_sendFrom_52 : decode cX2_sendFrom 52 = .ok (.aload_n 0, 1) := by decide +kernel
theorem dX2_sendFrom_53 : decode cX2_sendFrom 53 = .ok (.dup, 1) := by decide +kernel
theorem dX2_sendFrom_54 : decode cX2_sendFrom 54 = .ok (.getfield 220, 3) := by decide +kernel
theorem dX2_sendFrom_57 : decode cX2_sendFrom 57 = .ok (.iconst 1, 1) := by decide +kernel
theorem dX2_sendFrom_58 : decode cX2_sendFrom 58 = .ok (.iadd, 1) := by decide +kernel
theorem dX2_sendFrom_59 : decode cX2_sendFrom 59 = .ok (.putfield 220, 3) := by decide +kernel
theorem dX2_sendFrom_62 : decode cX2_sendFrom 62 = .ok (.goto 15, 3) := by decide +kernel
theorem dX2_sendFrom_65 : decode cX2_sendFrom 65 = .ok (.aload_n 0, 1) := by decide +kernel
theorem dX2_sendFrom_66 : decode cX2_sendFrom 66 = .ok (.aload_n 1, 1) := by decide +kernel
theorem dX2_sendFrom_67 : decode cX2_sendFrom 67 = .ok (.getfield 298, 3) := by decide +kernel
theorem dX2_sendFrom_70 : decode cX2_sendFrom 70 = .ok (.iconst 0, 1) := by decide +kernel
theorem dX2_sendFrom_71 : decode cX2_sendFrom 71 = .ok (.iaload, 1) := by decide +kernel
theorem dX2_sendFrom_72 : decode cX2_sendFrom 72 = .ok (.iload_n 2, 1) := by decide +kernel
theorem dX2_sendFrom_73 : decode cX2_sendFrom 73 = .ok (.iload_n 3, 1) := by decide +kernel
theorem dX2_sendFrom_74 : decode cX2_sendFrom 74 = .ok (.invokevirtual 301, 3) := by decide +kernel
theorem dX2_sendFrom_77 : decode cX2_sendFrom 77 = .ok (.aload_n 1, 1) := by decide +kernel
theorem dX2_sendFrom_78 : decode cX2_sendFrom 78 = .ok (.invokevirtual 305, 3) := by decide +kernel
theorem dX2_sendFrom_81 : decode cX2_sendFrom 81 = .ok (.iinc 5 1, 3) := by decide +kernel
theorem dX2_sendFrom_84 : decode cX2_sendFrom 84 = .ok (.goto (-70), 3) := by decide +kernel
theorem dX2_sendFrom_87 : decode cX2_sendFrom 87 = .ok (.return_, 1) := by decide +kernel
theorem dX2_note_0 : decode cX2_note 0 = .ok (.aload_n 0, 1) := by decide +kernel
theorem dX2_note_1 : decode cX2_note 1 = .ok (.getfield 158, 3) := by decide +kernel
theorem dX2_note_4 : decode cX2_note 4 = .ok (.iconst 4, 1) := by decide +kernel
theorem dX2_note_5 : decode cX2_note 5 = .ok (.imul, 1) := by decide +kernel
theorem dX2_note_6 : decode cX2_note 6 = .ok (.istore 4, 2) := by decide +kernel
theorem dX2_note_8 : decode cX2_note 8 = .ok (.aload_n 0, 1) := by decide +kernel
theorem dX2_note_9 : decode cX2_note 9 = .ok (.getfield 19, 3) := by decide +kernel
theorem dX2_note_12 : decode cX2_note 12 = .ok (.iload 4, 2) := by decide +kernel
theorem dX2_note_14 : decode cX2_note 14 = .ok (.iload_n 1, 1) := by decide +kernel
theorem dX2_note_15 : decode cX2_note 15 = .ok (.iastore, 1) := by decide +kernel
theorem dX2_note_16 : decode cX2_note 16 = .ok (.aload_n 0, 1) := by decide +kernel
theorem dX2_note_17 : decode cX2_note 17 = .ok (.getfield 19, 3) := by decide +kernel
theorem dX2_note_20 : decode cX2_note 20 = .ok (.iload 4, 2) := by decide +kernel
theorem dX2_note_22 : decode cX2_note 22 = .ok (.iconst 1, 1) := by decide +kernel
theorem dX2_note_23 : decode cX2_note 23 = .ok (.iadd, 1) := by decide +kernel
theorem dX2_note_24 : decode cX2_note 24 = .ok (.iload_n 2, 1) := by decide +kernel
theorem dX2_note_25 : decode cX2_note 25 = .ok (.iastore, 1) := by decide +kernel
theorem dX2_note_26 : decode cX2_note 26 = .ok (.aload_n 0, 1) := by decide +kernel
theorem dX2_note_27 : decode cX2_note 27 = .ok (.getfield 19, 3) := by decide +kernel
theorem dX2_note_30 : decode cX2_note 30 = .ok (.iload 4, 2) := by decide +kernel
theorem dX2_note_32 : decode cX2_note 32 = .ok (.iconst 2, 1) := by decide +kernel
theorem dX2_note_33 : decode cX2_note 33 = .ok (.iadd, 1) := by decide +kernel
theorem dX2_note_34 : decode cX2_note 34 = .ok (.iload_n 3, 1) := by decide +kernel
theorem dX2_note_35 : decode cX2_note 35 = .ok (.iastore, 1) := by decide +kernel
theorem dX2_note_36 : decode cX2_note 36 = .ok (.aload_n 0, 1) := by decide +kernel
theorem dX2_note_37 : decode cX2_note 37 = .ok (.getfield 19, 3) := by decide +kernel
theorem dX2_note_40 : decode cX2_note 40 = .ok (.iload 4, 2) := by decide +kernel
theorem dX2_note_42 : decode cX2_note 42 = .ok (.iconst 3, 1) := by decide +kernel
theorem dX2_note_43 : decode cX2_note 43 = .ok (.iadd, 1) := by decide +kernel
theorem dX2_note_44 : decode cX2_note 44 = .ok (.aload_n 0, 1) := by decide +kernel
theorem dX2_note_45 : decode cX2_note 45 = .ok (.getfield 143, 3) := by decide +kernel
theorem dX2_note_48 : decode cX2_note 48 = .ok (.iastore, 1) := by decide +kernel
theorem dX2_note_49 : decode cX2_note 49 = .ok (.aload_n 0, 1) := by decide +kernel
theorem dX2_note_50 : decode cX2_note 50 = .ok (.dup, 1) := by decide +kernel
theorem dX2_note_51 : decode cX2_note 51 = .ok (.getfield 158, 3) := by decide +kernel
theorem dX2_note_54 : decode cX2_note 54 = .ok (.iconst 1, 1) := by decide +kernel
theorem dX2_note_55 : decode cX2_note 55 = .ok (.iadd, 1) := by decide +kernel
theorem dX2_note_56 : decode cX2_note 56 = .ok (.putfield 158, 3) := by decide +kernel
theorem dX2_note_59 : decode cX2_note 59 = .ok (.return_, 1) := by decide +kernel
set_option maxRecDepth 20000 in
theorem ggX2_tellDown_X1_takeWord : GoodIn wsX2_tellDown wsX1_takeWord := goodIn_r _ [8, 9, 10, 11, 12, 13, 14, 15, 16, 17, 18, 43, 44, 45, 46, 47, 48, 49, 50, 51, 52, 53, 54, 55, 56, 57] (by decide +kernel) (by decide +kernel)
set_option maxRecDepth 20000 in
theorem gX2_tellDown_X1_takeWord : GoodIn wsX2_tellDown (wsV RX2 308 RX1 yX1_takeWord wsX1_takeWord) := goodIn_app (goodIn_of _ (by decide +kernel)) ggX2_tellDown_X1_takeWord
set_option maxRecDepth 20000 in
theorem ggX2_tellDown_X1_takeKey : GoodIn wsX2_tellDown wsX1_takeKey := goodIn_r _ [22, 23, 24, 25, 26, 10, 43, 44, 45, 46, 47, 48, 49, 50, 51, 52, 53, 54, 55, 56, 57] (by decide +kernel) (by decide +kernel)
set_option maxRecDepth 20000 in
theorem gX2_tellDown_X1_takeKey : GoodIn wsX2_tellDown (wsV RX2 312 RX1 yX1_takeKey wsX1_takeKey) := goodIn_app (goodIn_of _ (by decide +kernel)) ggX2_tellDown_X1_takeKey
theorem dX2_tellDown_0 : decode cX2_tellDown 0 = .ok (.aload_n 0, 1) := by decide +kernel
theorem dX2_tellDown_1 : decode cX2_tellDown 1 = .ok (.getfield 11, 3) := by decide +kernel
theorem dX2_tellDown_4 : decode cX2_tellDown 4 = .ok (.astore_n 1, 1) := by decide +kernel
theorem dX2_tellDown_5 : decode cX2_tellDown 5 = .ok (.aload_n 1, 1) := by decide +kernel
theorem dX2_tellDown_6 : decode cX2_tellDown 6 = .ok (.arraylength, 1) := by decide +kernel
theorem dX2_tellDown_7 : decode cX2_tellDown 7 = .ok (.istore_n 2, 1) := by decide +kernel
theorem dX2_tellDown_8 : decode cX2_tellDown 8 = .ok (.iconst 0, 1) := by decide +kernel
theorem dX2_tellDown_9 : decode cX2_tellDown 9 = .ok (.istore_n 3, 1) := by decide +kernel
theorem dX2_tellDown_10 : decode cX2_tellDown 10 = .ok (.iload_n 3, 1) := by decide +kernel
theorem dX2_tellDown_11 : decode cX2_tellDown 11 = .ok (.iload_n 2, 1) := by decide +kernel
theorem dX2_tellDown_12 : decode cX2_tellDown 12 = .ok (.if_icmp .ge 37, 3) := by decide +kernel
theorem dX2_tellDown_15 : decode cX2_tellDown 15 = .ok (.aload_n 1, 1) := by decide +kernel
theorem dX2_tellDown_16 : decode cX2_tellDown 16 = .ok (.iload_n 3, 1) := by decide +kernel
theorem dX2_tellDown_17 : decode cX2_tellDown 17 = .ok (.aaload, 1) := by decide +kernel
theorem dX2_tellDown_18 : decode cX2_tellDown 18 = .ok (.astore 4, 2) := by decide +kernel
theorem dX2_tellDown_20 : decode cX2_tellDown 20 = .ok (.aload 4, 2) := by decide +kernel
theorem dX2_tellDown_22 : decode cX2_tellDown 22 = .ok (.getfield 58, 3) := by decide +kernel
theorem dX2_tellDown_25 : decode cX2_tellDown 25 = .ok (.iconst 2, 1) := by decide +kernel
theorem dX2_tellDown_26 : decode cX2_tellDown 26 = .ok (.if_icmp .ne 17, 3) := by decide +kernel
theorem dX2_tellDown_29 : decode cX2_tellDown 29 = .ok (.aload 4, 2) := by decide +kernel
theorem dX2_tellDown_31 : decode cX2_tellDown 31 = .ok (.aload_n 0, 1) := by decide +kernel
theorem dX2_tellDown_32 : decode cX2_tellDown 32 = .ok (.getfield 143, 3) := by decide +kernel
theorem dX2_tellDown_35 : decode cX2_tellDown 35 = .ok (.invokevirtual 308, 3) := by decide +kernel
theorem dX2_tellDown_38 : decode cX2_tellDown 38 = .ok (.aload 4, 2) := by decide +kernel
theorem dX2_tellDown_40 : decode cX2_tellDown 40 = .ok (.invokevirtual 312, 3) := by decide +kernel
theorem dX2_tellDown_43 : decode cX2_tellDown 43 = .ok (.iinc 3 1, 3) := by decide +kernel
theorem dX2_tellDown_46 : decode cX2_tellDown 46 = .ok (.goto (-36), 3) := by decide +kernel
theorem dX2_tellDown_49 : decode cX2_tellDown 49 = .ok (.return_, 1) := by decide +kernel
theorem dX2_clearSpoilt_0 : decode cX2_clearSpoilt 0 = .ok (.aload_n 0, 1) := by decide +kernel
theorem dX2_clearSpoilt_1 : decode cX2_clearSpoilt 1 = .ok (.getfield 11, 3) := by decide +kernel
theorem dX2_clearSpoilt_4 : decode cX2_clearSpoilt 4 = .ok (.astore_n 1, 1) := by decide +kernel
theorem dX2_clearSpoilt_5 : decode cX2_clearSpoilt 5 = .ok (.aload_n 1, 1) := by decide +kernel
theorem dX2_clearSpoilt_6 : decode cX2_clearSpoilt 6 = .ok (.arraylength, 1) := by decide +kernel
theorem dX2_clearSpoilt_7 : decode cX2_clearSpoilt 7 = .ok (.istore_n 2, 1) := by decide +kernel
theorem dX2_clearSpoilt_8 : decode cX2_clearSpoilt 8 = .ok (.iconst 0, 1) := by decide +kernel
theorem dX2_clearSpoilt_9 : decode cX2_clearSpoilt 9 = .ok (.istore_n 3, 1) := by decide +kernel
theorem dX2_clearSpoilt_10 : decode cX2_clearSpoilt 10 = .ok (.iload_n 3, 1) := by decide +kernel
theorem dX2_clearSpoilt_11 : decode cX2_clearSpoilt 11 = .ok (.iload_n 2, 1) := by decide +kernel
theorem dX2_clearSpoilt_12 : decode cX2_clearSpoilt 12 = .ok (.if_icmp .ge 20, 3) := by decide +kernel
theorem dX2_clearSpoilt_15 : decode cX2_clearSpoilt 15 = .ok (.aload_n 1, 1) := by decide +kernel
theorem dX2_clearSpoilt_16 : decode cX2_clearSpoilt 16 = .ok (.iload_n 3, 1) := by decide +kernel
theorem dX2_clearSpoilt_17 : decode cX2_clearSpoilt 17 = .ok (.aaload, 1) := by decide +kernel
theorem dX2_clearSpoilt_18 : decode cX2_clearSpoilt 18 = .ok (.astore 4, 2) := by decide +kernel
theorem dX2_clearSpoilt_20 : decode cX2_clearSpoilt 20 = .ok (.aload 4, 2) := by decide +kernel
theorem dX2_clearSpoilt_22 : decode cX2_clearSpoilt 22 = .ok (.iconst 0, 1) := by decide +kernel
theorem dX2_clearSpoilt_23 : decode cX2_clearSpoilt 23 = .ok (.putfield 135, 3) := by decide +kernel
theorem dX2_clearSpoilt_26 : decode cX2_clearSpoilt 26 = .ok (.iinc 3 1, 3) := by decide +kernel
theorem dX2_clearSpoilt_29 : decode cX2_clearSpoilt 29 = .ok (.goto (-19), 3) := by decide +kernel
theorem dX2_clearSpoilt_32 : decode cX2_clearSpoilt 32 = .ok (.return_, 1) := by decide +kernel
theorem dX2_mix_0 : decode cX2_mix 0 = .ok (.iload_n 0, 1) := by decide +kernel
theorem dX2_mix_1 : decode cX2_mix 1 = .ok (.ldc_w 315, 3) := by decide +kernel
theorem dX2_mix_4 : decode cX2_mix 4 = .ok (.imul, 1) := by decide +kernel
theorem dX2_mix_5 : decode cX2_mix 5 = .ok (.istore_n 2, 1) := by decide +kernel
theorem dX2_mix_6 : decode cX2_mix 6 = .ok (.iload_n 2, 1) := by decide +kernel
theorem dX2_mix_7 : decode cX2_mix 7 = .ok (.iload_n 2, 1) := by decide +kernel
theorem dX2_mix_8 : decode cX2_mix 8 = .ok (.bipush 15, 2) := by decide +kernel
theorem dX2_mix_10 : decode cX2_mix 10 = .ok (.iushr, 1) := by decide +kernel
theorem dX2_mix_11 : decode cX2_mix 11 = .ok (.ixor, 1) := by decide +kernel
theorem dX2_mix_12 : decode cX2_mix 12 = .ok (.istore_n 2, 1) := by decide +kernel
theorem dX2_mix_13 : decode cX2_mix 13 = .ok (.iload_n 2, 1) := by decide +kernel
theorem dX2_mix_14 : decode cX2_mix 14 = .ok (.iload_n 1, 1) := by decide +kernel
theorem dX2_mix_15 : decode cX2_mix 15 = .ok (.ixor, 1) := by decide +kernel
theorem dX2_mix_16 : decode cX2_mix 16 = .ok (.ldc_w 316, 3) := by decide +kernel
theorem dX2_mix_19 : decode cX2_mix 19 = .ok (.imul, 1) := by decide +kernel
theorem dX2_mix_20 : decode cX2_mix 20 = .ok (.istore_n 2, 1) := by decide +kernel
theorem dX2_mix_21 : decode cX2_mix 21 = .ok (.iload_n 2, 1) := by decide +kernel
theorem dX2_mix_22 : decode cX2_mix 22 = .ok (.iload_n 2, 1) := by decide +kernel
theorem dX2_mix_23 : decode cX2_mix 23 = .ok (.bipush 13, 2) := by decide +kernel
theorem dX2_mix_25 : decode cX2_mix 25 = .ok (.iushr, 1) := by decide +kernel
theorem dX2_mix_26 : decode cX2_mix 26 = .ok (.ixor, 1) := by decide +kernel
theorem dX2_mix_27 : decode cX2_mix 27 = .ok (.ireturn, 1) := by decide +kernel
theorem dJ9_abs_0f7a4_0 : decode cJ9_abs_0f7a4 0 = .ok (.iload_n 0, 1) := by decide +kernel
theorem dJ9_abs_0f7a4_1 : decode cJ9_abs_0f7a4 1 = .ok (.ifCond .ge 8, 3) := by decide +kernel
theorem dJ9_abs_0f7a4_4 : decode cJ9_abs_0f7a4 4 = .ok (.iload_n 0, 1) := by decide +kernel
theorem dJ9_abs_0f7a4_5 : decode cJ9_abs_0f7a4 5 = .ok (.ineg, 1) := by decide +kernel
theorem dJ9_abs_0f7a4_6 : decode cJ9_abs_0f7a4 6 = .ok (.goto 4, 3) := by decide +kernel
theorem dJ9_abs_0f7a4_9 : decode cJ9_abs_0f7a4 9 = .ok (.iload_n 0, 1) := by decide +kernel
theorem dJ9_abs_0f7a4_10 : decode cJ9_abs_0f7a4 10 = .ok (.ireturn, 1) := by decide +kernel
theorem dJ9_max_7cf53_0 : decode cJ9_max_7cf53 0 = .ok (.iload_n 0, 1) := by decide +kernel
theorem dJ9_max_7cf53_1 : decode cJ9_max_7cf53 1 = .ok (.iload_n 1, 1) := by decide +kernel
theorem dJ9_max_7cf53_2 : decode cJ9_max_7cf53 2 = .ok (.if_icmp .lt 7, 3) := by decide +kernel
theorem dJ9_max_7cf53_5 : decode cJ9_max_7cf53 5 = .ok (.iload_n 0, 1) := by decide +kernel
theorem dJ9_max_7cf53_6 : decode cJ9_max_7cf53 6 = .ok (.goto 4, 3) := by decide +kernel
theorem dJ9_max_7cf53_9 : decode cJ9_max_7cf53 9 = .ok (.iload_n 1, 1) := by decide +kernel
theorem dJ9_max_7cf53_10 : decode cJ9_max_7cf53 10 = .ok (.ireturn, 1) := by decide +kernel
theorem dJ9_min_7cf53_0 : decode cJ9_min_7cf53 0 = .ok (.iload_n 0, 1) := by decide +kernel
theorem dJ9_min_7cf53_1 : decode cJ9_min_7cf53 1 = .ok (.iload_n 1, 1) := by decide +kernel
theorem dJ9_min_7cf53_2 : decode cJ9_min_7cf53 2 = .ok (.if_icmp .gt 7, 3) := by decide +kernel
theorem dJ9_min_7cf53_5 : decode cJ9_min_7cf53 5 = .ok (.iload_n 0, 1) := by decide +kernel
theorem dJ9_min_7cf53_6 : decode cJ9_min_7cf53 6 = .ok (.goto 4, 3) := by decide +kernel
theorem dJ9_min_7cf53_9 : decode cJ9_min_7cf53 9 = .ok (.iload_n 1, 1) := by decide +kernel
theorem dJ9_min_7cf53_10 : decode cJ9_min_7cf53 10 = .ok (.ireturn, 1) := by decide +kernel
end
section
/-! ===== the class: leaves ===== -/
def mixF (a b : Int32) : Int32 := ((((a * 625341585) ^^^ ((a * 625341585).toUInt32 >>> ((15 : Int32).toUInt32 &&& Int32.toUInt32 31)).toInt32) ^^^ b) * (-1640531535)) ^^^ (((((a * 625341585) ^^^ ((a * 625341585).toUInt32 >>> ((15 : Int32).toUInt32 &&& Int32.toUInt32 31)).toInt32) ^^^ b) * (-1640531535)).toUInt32 >>> ((13 : Int32).toUInt32 &&& Int32.toUInt32 31)).toInt32
def winF (a b : Int32) : Int32 := ((mixF a b).toUInt32 >>> ((1 : Int32).toUInt32 &&& Int32.toUInt32 31)).toInt32 - ((mixF a b).toUInt32 >>> ((1 : Int32).toUInt32 &&& Int32.toUInt32 31)).toInt32 / 8 * 8
theorem lcX2_mix_315 : Cond.constant RX2 315 (625341585) ∈ wsX2_mix := by decide +kernel
theorem lcX2_mix_316 : Cond.constant RX2 316 (-1640531535) ∈ wsX2_mix := by decide +kernel
set_option maxHeartbeats 4000000 in
set_option maxRecDepth 100000 in
/-- mix -/
theorem c_X2_mix (M : gm_M) (a b : Int32) : KC lyC yX2_mix wsX2_mix ({ frames := 0, cells := 0, slots := 0, locals := 0 }) (fun _ => [.int a, .int b]) M (fun _ => some (.int (mixF a b))) (M) := by
  refine KC.of_i (by decide) rfl rfl (fun _ => by simp) (fun _ => by simp [Value.category])  ?_
  intro X hC hR hX hE
  simp only [List.map_cons, List.map_nil, List.cons_append, List.nil_append, List.length_cons, List.length_nil, List.replicate, Nat.reduceAdd, Nat.reduceSub]
  refine go_iload_n hC dX2_mix_0 rfl ?_
  refine go_ldcw hC lcX2_mix_315 dX2_mix_1 ?_
  refine go_imul hC dX2_mix_4 ?_
  refine go_istore_n hC 2 dX2_mix_5 rfl (Nat.le_of_ble_eq_true rfl) ?_
  simp only [gm_s0, gm_s1]
  refine go_iload_n hC dX2_mix_6 rfl ?_
  refine go_iload_n hC dX2_mix_7 rfl ?_
  refine go_bipush (v := 15) hC dX2_mix_8 (by decide) ?_
  refine go_iushr hC dX2_mix_10 ?_
  refine go_ixor hC dX2_mix_11 ?_
  refine go_istore_n hC 2 dX2_mix_12 rfl (Nat.le_of_ble_eq_true rfl) ?_
  simp only [gm_s0, gm_s1]
  refine go_iload_n hC dX2_mix_13 rfl ?_
  refine go_iload_n hC dX2_mix_14 rfl ?_
  refine go_ixor hC dX2_mix_15 ?_
  refine go_ldcw hC lcX2_mix_316 dX2_mix_16 ?_
  refine go_imul hC dX2_mix_19 ?_
  refine go_istore_n hC 2 dX2_mix_20 rfl (Nat.le_of_ble_eq_true rfl) ?_
  simp only [gm_s0, gm_s1]
  refine go_iload_n hC dX2_mix_21 rfl ?_
  refine go_iload_n hC dX2_mix_22 rfl ?_
  refine go_bipush (v := 13) hC dX2_mix_23 (by decide) ?_
  refine go_iushr hC dX2_mix_25 ?_
  refine go_ixor hC dX2_mix_26 ?_
  refine go_cast ?_ ?_ (hE _ _ dX2_mix_27)
  · first | rfl | (simp [*]; done) | (simp [*, gm_us, gm_un1, gm_un2]; done)
  · first | rfl | (simp [*]; done) | (simp [*, gm_us, gm_un1, gm_un2]; done)
set_option maxHeartbeats 4000000 in
set_option maxRecDepth 100000 in
/-- isWay -/
theorem c_X2_isWay (M : gm_M) (a : Int32) : KC lyC yX2_isWay wsX2_isWay ({ frames := 0, cells := 0, slots := 0, locals := 0 }) (fun _ => [.int a]) M (fun _ => some (.int (if ¬ a < 100 ∧ ¬ 600 < a then 1 else 0))) (M) := by
  refine KC.of_z (by decide) rfl rfl (fun _ => by simp) (fun _ => by simp [Value.category]) (by split <;> decide) ?_
  intro X hC hR hX hE
  simp only [List.map_cons, List.map_nil, List.cons_append, List.nil_append, List.length_cons, List.length_nil, List.replicate, Nat.reduceAdd, Nat.reduceSub]
  refine go_iload_n hC dX2_isWay_0 rfl ?_
  refine go_bipush (v := 100) hC dX2_isWay_1 (by decide) ?_
  refine go_icmp_lt hC 17 dX2_isWay_3 (by decide) (fun h3 => ?_) (fun h3 => ?_)
  ·
    refine go_iconst (v := 0) hC dX2_isWay_17 (by decide) ?_
    refine go_cast ?_ ?_ (hE _ _ dX2_isWay_18)
    · first | rfl | (simp [*]; done) | (simp [*, gm_us, gm_un1, gm_un2]; done)
    · first | rfl | (simp [*]; done) | (simp [*, gm_us, gm_un1, gm_un2]; done)
  ·
    refine go_iload_n hC dX2_isWay_6 rfl ?_
    refine go_sipush (v := 600) hC dX2_isWay_7 (by decide) ?_
    refine go_icmp_gt hC 17 dX2_isWay_10 (by decide) (fun h10 => ?_) (fun h10 => ?_)
    ·
      refine go_iconst (v := 0) hC dX2_isWay_17 (by decide) ?_
      refine go_cast ?_ ?_ (hE _ _ dX2_isWay_18)
      · first | rfl | (simp [*]; done) | (simp [*, gm_us, gm_un1, gm_un2]; done)
      · first | rfl | (simp [*]; done) | (simp [*, gm_us, gm_un1, gm_un2]; done)
    ·
      refine go_iconst (v := 1) hC dX2_isWay_13 (by decide) ?_
      refine go_goto hC 18 dX2_isWay_14 (by decide) ?_
      refine go_cast ?_ ?_ (hE _ _ dX2_isWay_18)
      · first | rfl | (simp [*]; done) | (simp [*, gm_us, gm_un1, gm_un2]; done)
      · first | rfl | (simp [*]; done) | (simp [*, gm_us, gm_un1, gm_un2]; done)
def cClear (M : gm_M) (n : Nat) : gm_M := gm_up (gm_up (gm_up (gm_up (gm_up (gm_up (gm_up (gm_up (gm_up M 0 2 n 0) 0 3 n 0) 0 4 n 0) 0 5 n 0) 0 6 n 0) 0 7 n 1) 0 8 n 0) 0 9 n 0) 0 10 n 0
theorem kwX0_clear_0 : ∀ w ∈ wsX00, w ∈ wsX0_clear := by decide +kernel
theorem lkX0_clear_18 : Cond.fieldLink RX0 18 "SharedFibre$Container" "weight" "I" ∈ wsX0_clear := by decide +kernel
theorem lkX0_clear_22 : Cond.fieldLink RX0 22 "SharedFibre$Container" "queued" "I" ∈ wsX0_clear := by decide +kernel
theorem lkX0_clear_25 : Cond.fieldLink RX0 25 "SharedFibre$Container" "firstHurt" "Z" ∈ wsX0_clear := by decide +kernel
theorem lkX0_clear_29 : Cond.fieldLink RX0 29 "SharedFibre$Container" "fixed" "I" ∈ wsX0_clear := by decide +kernel
theorem lkX0_clear_32 : Cond.fieldLink RX0 32 "SharedFibre$Container" "assured" "I" ∈ wsX0_clear := by decide +kernel
theorem lkX0_clear_35 : Cond.fieldLink RX0 35 "SharedFibre$Container" "most" "I" ∈ wsX0_clear := by decide +kernel
theorem lkX0_clear_38 : Cond.fieldLink RX0 38 "SharedFibre$Container" "reported" "I" ∈ wsX0_clear := by decide +kernel
theorem lkX0_clear_41 : Cond.fieldLink RX0 41 "SharedFibre$Container" "given" "I" ∈ wsX0_clear := by decide +kernel
theorem lkX0_clear_44 : Cond.fieldLink RX0 44 "SharedFibre$Container" "spare" "I" ∈ wsX0_clear := by decide +kernel
set_option maxHeartbeats 4000000 in
set_option maxRecDepth 100000 in
/-- Container.clear -/
theorem c_X0_clear (M : gm_M) (n : Nat) (hn : n < 10) : KC lyC yX0_clear wsX0_clear ({ frames := 0, cells := 0, slots := 0, locals := 0 }) (fun ad => [.ref (ad 0 n)]) M (fun _ => none) (cClear M n) := by
  refine KC.of_v (by decide) rfl rfl (fun _ => by simp) (fun _ => by simp [Value.category])  ?_
  intro X hC hR hX hE
  simp only [List.map_cons, List.map_nil, List.cons_append, List.nil_append, List.length_cons, List.length_nil, List.replicate, Nat.reduceAdd, Nat.reduceSub]
  refine go_aload_n hC dX0_clear_0 rfl ?_
  refine go_iconst (v := 0) hC dX0_clear_1 (by decide) ?_
  refine go_puti (ci := 0) hC 2 kwX0_clear_0 rfl tyX0 tyX0_ok nmX0 rfl (by decide) rfl lkX0_clear_22 (by first | decide | (show _ < 5; omega) | (show _ < 10; omega) | omega) rfl rfl rfl dX0_clear_2 ?_
  refine go_aload_n hC dX0_clear_5 rfl ?_
  refine go_iconst (v := 0) hC dX0_clear_6 (by decide) ?_
  refine go_puti (ci := 0) hC 3 kwX0_clear_0 rfl tyX0 tyX0_ok nmX0 rfl (by decide) rfl lkX0_clear_25 (by first | decide | (show _ < 5; omega) | (show _ < 10; omega) | omega) rfl (by decide) (by decide) dX0_clear_7 ?_
  refine go_aload_n hC dX0_clear_10 rfl ?_
  refine go_iconst (v := 0) hC dX0_clear_11 (by decide) ?_
  refine go_puti (ci := 0) hC 4 kwX0_clear_0 rfl tyX0 tyX0_ok nmX0 rfl (by decide) rfl lkX0_clear_29 (by first | decide | (show _ < 5; omega) | (show _ < 10; omega) | omega) rfl rfl rfl dX0_clear_12 ?_
  refine go_aload_n hC dX0_clear_15 rfl ?_
  refine go_iconst (v := 0) hC dX0_clear_16 (by decide) ?_
  refine go_puti (ci := 0) hC 5 kwX0_clear_0 rfl tyX0 tyX0_ok nmX0 rfl (by decide) rfl lkX0_clear_32 (by first | decide | (show _ < 5; omega) | (show _ < 10; omega) | omega) rfl rfl rfl dX0_clear_17 ?_
  refine go_aload_n hC dX0_clear_20 rfl ?_
  refine go_iconst (v := 0) hC dX0_clear_21 (by decide) ?_
  refine go_puti (ci := 0) hC 6 kwX0_clear_0 rfl tyX0 tyX0_ok nmX0 rfl (by decide) rfl lkX0_clear_35 (by first | decide | (show _ < 5; omega) | (show _ < 10; omega) | omega) rfl rfl rfl dX0_clear_22 ?_
  refine go_aload_n hC dX0_clear_25 rfl ?_
  refine go_iconst (v := 1) hC dX0_clear_26 (by decide) ?_
  refine go_puti (ci := 0) hC 7 kwX0_clear_0 rfl tyX0 tyX0_ok nmX0 rfl (by decide) rfl lkX0_clear_18 (by first | decide | (show _ < 5; omega) | (show _ < 10; omega) | omega) rfl rfl rfl dX0_clear_27 ?_
  refine go_aload_n hC dX0_clear_30 rfl ?_
  refine go_iconst (v := 0) hC dX0_clear_31 (by decide) ?_
  refine go_puti (ci := 0) hC 8 kwX0_clear_0 rfl tyX0 tyX0_ok nmX0 rfl (by decide) rfl lkX0_clear_38 (by first | decide | (show _ < 5; omega) | (show _ < 10; omega) | omega) rfl rfl rfl dX0_clear_32 ?_
  refine go_aload_n hC dX0_clear_35 rfl ?_
  refine go_iconst (v := 0) hC dX0_clear_36 (by decide) ?_
  refine go_puti (ci := 0) hC 9 kwX0_clear_0 rfl tyX0 tyX0_ok nmX0 rfl (by decide) rfl lkX0_clear_41 (by first | decide | (show _ < 5; omega) | (show _ < 10; omega) | omega) rfl rfl rfl dX0_clear_37 ?_
  refine go_aload_n hC dX0_clear_40 rfl ?_
  refine go_iconst (v := 0) hC dX0_clear_41 (by decide) ?_
  refine go_puti (ci := 0) hC 10 kwX0_clear_0 rfl tyX0 tyX0_ok nmX0 rfl (by decide) rfl lkX0_clear_44 (by first | decide | (show _ < 5; omega) | (show _ < 10; omega) | omega) rfl rfl rfl dX0_clear_42 ?_
  refine go_cast ?_ ?_ (hE _ _ dX0_clear_45)
  · first | rfl | (simp [*]; done) | (simp [*, gm_us, gm_un1, gm_un2]; done)
  · first | rfl | (simp [*]; done) | (simp [*, gm_us, gm_un1, gm_un2]; done)
theorem kwX0_load_0 : ∀ w ∈ wsX00, w ∈ wsX0_load := by decide +kernel
theorem lkX0_load_15 : Cond.fieldLink RX0 15 "SharedFibre$Container" "unsent" "[I" ∈ wsX0_load := by decide +kernel
theorem lkX0_load_22 : Cond.fieldLink RX0 22 "SharedFibre$Container" "queued" "I" ∈ wsX0_load := by decide +kernel
set_option maxHeartbeats 4000000 in
set_option maxRecDepth 100000 in
/-- Container.load -/
theorem c_X0_load (M : gm_M) (n q : Nat) (hn : n < 10) (hq : M 0 2 n = nI q) (h8 : q ≤ 8) : KC lyC yX0_load wsX0_load ({ frames := 0, cells := 0, slots := 0, locals := 0 }) (fun ad => [.ref (ad 0 n)]) M (fun _ => some (.int (bx_sum (fun k => M 11 k n) q))) (M) := by
  refine KC.of_i (by decide) rfl rfl (fun _ => by simp) (fun _ => by simp [Value.category])  ?_
  intro X hC hR hX hE
  simp only [List.map_cons, List.map_nil, List.cons_append, List.nil_append, List.length_cons, List.length_nil, List.replicate, Nat.reduceAdd, Nat.reduceSub]
  have lp4 : (fun j : Nat => GO lyC X 0 0 4 [some (.ref (gm_ad X 0 n)), some (.int (bx_sum (fun k => M 11 k n) j)), some (.int (nI j))] [] M) 0 := by
    refine loopN (q) (fun j : Nat => GO lyC X 0 0 4 [some (.ref (gm_ad X 0 n)), some (.int (bx_sum (fun k => M 11 k n) j)), some (.int (nI j))] [] M) ?_ (fun j hj ih => ?_)
    · try dsimp only
      refine go_iload_n hC dX0_load_4 rfl ?_
      refine go_aload_n hC dX0_load_5 rfl ?_
      refine go_geti (ci := 0) hC 2 kwX0_load_0 rfl rfl (by decide) rfl lkX0_load_22 (by first | decide | (show _ < 5; omega) | (show _ < 10; omega) | omega) dX0_load_6 ?_
      refine go_icmp_ge hC 27 dX0_load_9 (by decide) (fun h9 => ?_) (fun h9 => ?_)
      ·
        refine go_iload_n hC dX0_load_27 rfl ?_
        refine go_cast ?_ ?_ (hE _ _ dX0_load_28)
        · first | rfl | (simp [*]; done) | (simp [*, gm_us, gm_un1, gm_un2]; done)
        · first | rfl | (simp [*]; done) | (simp [*, gm_us, gm_un1, gm_un2]; done)
      ·
        exact absurd (by rw [hq]; exact nI_le (Nat.le_refl _) (by omega)) h9
    · try dsimp only at ih ⊢
      refine go_iload_n hC dX0_load_4 rfl ?_
      refine go_aload_n hC dX0_load_5 rfl ?_
      refine go_geti (ci := 0) hC 2 kwX0_load_0 rfl rfl (by decide) rfl lkX0_load_22 (by first | decide | (show _ < 5; omega) | (show _ < 10; omega) | omega) dX0_load_6 ?_
      refine go_icmp_ge hC 27 dX0_load_9 (by decide) (fun h9 => ?_) (fun h9 => ?_)
      ·
        exact absurd h9 (by rw [hq]; exact nI_ge hj (by omega))
      ·
        refine go_iload_n hC dX0_load_12 rfl ?_
        refine go_aload_n hC dX0_load_13 rfl ?_
        refine go_getr (ci := 0) hC 1 kwX0_load_0 rfl rfl (by decide) rfl lkX0_load_15 (by first | decide | (show _ < 5; omega) | (show _ < 10; omega) | omega) dX0_load_14 ?_
        refine go_iload_n hC dX0_load_17 rfl ?_
        refine go_iald hC rfl (by first | decide | (show _ < 5; omega) | (show _ < 10; omega) | omega) (gm_in rfl (by omega) (by decide)) (gm_cl rfl (by omega)) dX0_load_18 ?_
        refine go_iadd hC dX0_load_19 ?_
        refine go_istore_n hC 1 dX0_load_20 rfl (Nat.le_of_ble_eq_true rfl) ?_
        simp only [gm_s0, gm_s1]
        refine go_iinc (v := 1) hC dX0_load_21 rfl (by decide) ?_
        simp only [gm_s0, gm_s1]
        refine go_goto hC 4 dX0_load_24 (by decide) ?_
        rw [nI_1]
        exact ih
  try dsimp only at lp4
  refine go_iconst (v := 0) hC dX0_load_0 (by decide) ?_
  refine go_istore_n hC 1 dX0_load_1 rfl (Nat.le_of_ble_eq_true rfl) ?_
  simp only [gm_s0, gm_s1]
  refine go_iconst (v := 0) hC dX0_load_2 (by decide) ?_
  refine go_istore_n hC 2 dX0_load_3 rfl (Nat.le_of_ble_eq_true rfl) ?_
  simp only [gm_s0, gm_s1]
  exact lp4
def cApp (M : gm_M) (n q : Nat) (d b : Int32) : gm_M := gm_up (gm_up (gm_up M 10 q n d) 11 q n b) 0 2 n (M 0 2 n + 1)
theorem kwX0_append_0 : ∀ w ∈ wsX00, w ∈ wsX0_append := by decide +kernel
theorem lkX0_append_9 : Cond.fieldLink RX0 9 "SharedFibre$Container" "numbers" "[I" ∈ wsX0_append := by decide +kernel
theorem lkX0_append_15 : Cond.fieldLink RX0 15 "SharedFibre$Container" "unsent" "[I" ∈ wsX0_append := by decide +kernel
theorem lkX0_append_22 : Cond.fieldLink RX0 22 "SharedFibre$Container" "queued" "I" ∈ wsX0_append := by decide +kernel
set_option maxHeartbeats 4000000 in
set_option maxRecDepth 100000 in
/-- Container.append -/
theorem c_X0_append (M : gm_M) (n q : Nat) (hn : n < 10) (hq : M 0 2 n = nI q) (hq8 : q < 8) (d b : Int32) : KC lyC yX0_append wsX0_append ({ frames := 0, cells := 0, slots := 0, locals := 0 }) (fun ad => [.ref (ad 0 n), .int d, .int b]) M (fun _ => none) (cApp M n q d b) := by
  refine KC.of_v (by decide) rfl rfl (fun _ => by simp) (fun _ => by simp [Value.category])  ?_
  intro X hC hR hX hE
  simp only [List.map_cons, List.map_nil, List.cons_append, List.nil_append, List.length_cons, List.length_nil, List.replicate, Nat.reduceAdd, Nat.reduceSub]
  refine go_aload_n hC dX0_append_0 rfl ?_
  refine go_getr (ci := 0) hC 0 kwX0_append_0 rfl rfl (by decide) rfl lkX0_append_9 (by first | decide | (show _ < 5; omega) | (show _ < 10; omega) | omega) dX0_append_1 ?_
  refine go_aload_n hC dX0_append_4 rfl ?_
  refine go_geti (ci := 0) hC 2 kwX0_append_0 rfl rfl (by decide) rfl lkX0_append_22 (by first | decide | (show _ < 5; omega) | (show _ < 10; omega) | omega) dX0_append_5 ?_
  refine go_iload_n hC dX0_append_8 rfl ?_
  refine go_iast hC rfl (by first | decide | (show _ < 5; omega) | (show _ < 10; omega) | omega) (gm_in (n := q) hq (by omega) (by decide)) (gm_cl (n := q) hq (by omega)) dX0_append_9 ?_
  refine go_aload_n hC dX0_append_10 rfl ?_
  refine go_getr (ci := 0) hC 1 kwX0_append_0 rfl rfl (by decide) rfl lkX0_append_15 (by first | decide | (show _ < 5; omega) | (show _ < 10; omega) | omega) dX0_append_11 ?_
  refine go_aload_n hC dX0_append_14 rfl ?_
  refine go_geti (ci := 0) hC 2 kwX0_append_0 rfl rfl (by decide) rfl lkX0_append_22 (by first | decide | (show _ < 5; omega) | (show _ < 10; omega) | omega) dX0_append_15 ?_
  refine go_iload_n hC dX0_append_18 rfl ?_
  refine go_iast hC rfl (by first | decide | (show _ < 5; omega) | (show _ < 10; omega) | omega) (gm_in (n := q) ((gm_un1 (by decide)).trans hq) (by omega) (by decide)) (gm_cl (n := q) ((gm_un1 (by decide)).trans hq) (by omega)) dX0_append_19 ?_
  refine go_aload_n hC dX0_append_20 rfl ?_
  refine go_dup hC dX0_append_21 rfl ?_
  refine go_geti (ci := 0) hC 2 kwX0_append_0 rfl rfl (by decide) rfl lkX0_append_22 (by first | decide | (show _ < 5; omega) | (show _ < 10; omega) | omega) dX0_append_22 ?_
  refine go_iconst (v := 1) hC dX0_append_25 (by decide) ?_
  refine go_iadd hC dX0_append_26 ?_
  refine go_puti (ci := 0) hC 2 kwX0_append_0 rfl tyX0 tyX0_ok nmX0 rfl (by decide) rfl lkX0_append_22 (by first | decide | (show _ < 5; omega) | (show _ < 10; omega) | omega) rfl rfl rfl dX0_append_27 ?_
  refine go_cast ?_ ?_ (hE _ _ dX0_append_30)
  · first | rfl | (simp [*]; done) | (simp [*, gm_us, gm_un1, gm_un2]; done)
  · first | rfl | (simp [*]; done) | (simp [*, gm_us, gm_un1, gm_un2]; done)
def cSend (M : gm_M) (n : Nat) (z : Int32) : gm_M := if z = 0 then gm_up M 11 0 n (M 11 0 n - 1) else gm_up (gm_up M 11 0 n (M 11 0 n - 1)) 0 3 n 1
theorem kwX0_sendBlock_0 : ∀ w ∈ wsX00, w ∈ wsX0_sendBlock := by decide +kernel
theorem lkX0_sendBlock_15 : Cond.fieldLink RX0 15 "SharedFibre$Container" "unsent" "[I" ∈ wsX0_sendBlock := by decide +kernel
theorem lkX0_sendBlock_25 : Cond.fieldLink RX0 25 "SharedFibre$Container" "firstHurt" "Z" ∈ wsX0_sendBlock := by decide +kernel
set_option maxHeartbeats 4000000 in
set_option maxRecDepth 100000 in
/-- Container.sendBlock -/
theorem c_X0_sendBlock (M : gm_M) (n : Nat) (hn : n < 10) (z : Int32) : KC lyC yX0_sendBlock wsX0_sendBlock ({ frames := 0, cells := 0, slots := 0, locals := 0 }) (fun ad => [.ref (ad 0 n), .int z]) M (fun _ => none) (cSend M n z) := by
  refine KC.of_v (by decide) rfl rfl (fun _ => by simp) (fun _ => by simp [Value.category])  ?_
  intro X hC hR hX hE
  simp only [List.map_cons, List.map_nil, List.cons_append, List.nil_append, List.length_cons, List.length_nil, List.replicate, Nat.reduceAdd, Nat.reduceSub]
  refine go_aload_n hC dX0_sendBlock_0 rfl ?_
  refine go_getr (ci := 0) hC 1 kwX0_sendBlock_0 rfl rfl (by decide) rfl lkX0_sendBlock_15 (by first | decide | (show _ < 5; omega) | (show _ < 10; omega) | omega) dX0_sendBlock_1 ?_
  refine go_iconst (v := 0) hC dX0_sendBlock_4 (by decide) ?_
  refine go_dup2 hC dX0_sendBlock_5 rfl rfl ?_
  refine go_iald hC rfl (by first | decide | (show _ < 5; omega) | (show _ < 10; omega) | omega) (gm_in (n := 0) nI_0.symm (by omega) (by decide)) (gm_cl (n := 0) nI_0.symm (by omega)) dX0_sendBlock_6 ?_
  refine go_iconst (v := 1) hC dX0_sendBlock_7 (by decide) ?_
  refine go_isub hC dX0_sendBlock_8 ?_
  refine go_iast hC rfl (by first | decide | (show _ < 5; omega) | (show _ < 10; omega) | omega) (gm_in (n := 0) nI_0.symm (by omega) (by decide)) (gm_cl (n := 0) nI_0.symm (by omega)) dX0_sendBlock_9 ?_
  refine go_iload_n hC dX0_sendBlock_10 rfl ?_
  refine go_if_eq hC 19 dX0_sendBlock_11 (by decide) (fun h11 => ?_) (fun h11 => ?_)
  ·
    refine go_cast ?_ ?_ (hE _ _ dX0_sendBlock_19)
    · first | rfl | (simp [*, cSend]; done) | (simp [*, gm_us, gm_un1, gm_un2]; done)
    · first | rfl | (simp [*, cSend]; done) | (simp [*, gm_us, gm_un1, gm_un2]; done)
  ·
    refine go_aload_n hC dX0_sendBlock_14 rfl ?_
    refine go_iconst (v := 1) hC dX0_sendBlock_15 (by decide) ?_
    refine go_puti (ci := 0) hC 3 kwX0_sendBlock_0 rfl tyX0 tyX0_ok nmX0 rfl (by decide) rfl lkX0_sendBlock_25 (by first | decide | (show _ < 5; omega) | (show _ < 10; omega) | omega) rfl (by decide) (by decide) dX0_sendBlock_16 ?_
    refine go_cast ?_ ?_ (hE _ _ dX0_sendBlock_19)
    · first | rfl | (simp [*, cSend]; done) | (simp [*, gm_us, gm_un1, gm_un2]; done)
    · first | rfl | (simp [*, cSend]; done) | (simp [*, gm_us, gm_un1, gm_un2]; done)
def cDrop1 (n : Nat) : Nat → gm_M → gm_M := fun k M => gm_up (gm_up M 10 k n (M 10 (k + 1) n)) 11 k n (M 11 (k + 1) n)
def cDrop (M : gm_M) (n q : Nat) : gm_M := gm_up (iter (cDrop1 n) q (gm_up M 0 2 n (M 0 2 n - 1))) 0 3 n 0
theorem cDrop1_q {M : gm_M} {n : Nat} {x : Int32} (h : M 0 2 n = x) (j : Nat) : iter (cDrop1 n) j M 0 2 n = x := iter_inv (P := fun M => M 0 2 n = x) (fun k M h => by simp only [cDrop1]; rw [gm_un1 (by decide), gm_un1 (by decide)]; exact h) h j
theorem kwX0_dropFirst_0 : ∀ w ∈ wsX00, w ∈ wsX0_dropFirst := by decide +kernel
theorem lkX0_dropFirst_9 : Cond.fieldLink RX0 9 "SharedFibre$Container" "numbers" "[I" ∈ wsX0_dropFirst := by decide +kernel
theorem lkX0_dropFirst_15 : Cond.fieldLink RX0 15 "SharedFibre$Container" "unsent" "[I" ∈ wsX0_dropFirst := by decide +kernel
theorem lkX0_dropFirst_22 : Cond.fieldLink RX0 22 "SharedFibre$Container" "queued" "I" ∈ wsX0_dropFirst := by decide +kernel
theorem lkX0_dropFirst_25 : Cond.fieldLink RX0 25 "SharedFibre$Container" "firstHurt" "Z" ∈ wsX0_dropFirst := by decide +kernel
set_option maxHeartbeats 4000000 in
set_option maxRecDepth 100000 in
/-- Container.dropFirst -/
theorem c_X0_dropFirst (M : gm_M) (n q : Nat) (hn : n < 10) (hq : M 0 2 n = nI (q + 1)) (h8 : q < 8) : KC lyC yX0_dropFirst wsX0_dropFirst ({ frames := 0, cells := 0, slots := 0, locals := 0 }) (fun ad => [.ref (ad 0 n)]) M (fun _ => none) (cDrop M n q) := by
  refine KC.of_v (by decide) rfl rfl (fun _ => by simp) (fun _ => by simp [Value.category])  ?_
  intro X hC hR hX hE
  simp only [List.map_cons, List.map_nil, List.cons_append, List.nil_append, List.length_cons, List.length_nil, List.replicate, Nat.reduceAdd, Nat.reduceSub]
  have hq2 : ∀ j, iter (cDrop1 n) j (gm_up M 0 2 n (M 0 2 n - 1)) 0 2 n = nI q := cDrop1_q (by rw [gm_us, hq]; exact nI_pred q)
  have lp12 : (fun j : Nat => GO lyC X 0 0 12 [some (.ref (gm_ad X 0 n)), some (.int (nI j))] [] (iter (cDrop1 n) j (gm_up M 0 2 n (M 0 2 n - 1)))) 0 := by
    refine loopN (q) (fun j : Nat => GO lyC X 0 0 12 [some (.ref (gm_ad X 0 n)), some (.int (nI j))] [] (iter (cDrop1 n) j (gm_up M 0 2 n (M 0 2 n - 1)))) ?_ (fun j hj ih => ?_)
    · try dsimp only
      refine go_iload_n hC dX0_dropFirst_12 rfl ?_
      refine go_aload_n hC dX0_dropFirst_13 rfl ?_
      refine go_geti (ci := 0) hC 2 kwX0_dropFirst_0 rfl rfl (by decide) rfl lkX0_dropFirst_22 (by first | decide | (show _ < 5; omega) | (show _ < 10; omega) | omega) dX0_dropFirst_14 ?_
      refine go_icmp_ge hC 54 dX0_dropFirst_17 (by decide) (fun h17 => ?_) (fun h17 => ?_)
      ·
        refine go_aload_n hC dX0_dropFirst_54 rfl ?_
        refine go_iconst (v := 0) hC dX0_dropFirst_55 (by decide) ?_
        refine go_puti (ci := 0) hC 3 kwX0_dropFirst_0 rfl tyX0 tyX0_ok nmX0 rfl (by decide) rfl lkX0_dropFirst_25 (by first | decide | (show _ < 5; omega) | (show _ < 10; omega) | omega) rfl (by decide) (by decide) dX0_dropFirst_56 ?_
        refine go_cast ?_ ?_ (hE _ _ dX0_dropFirst_59)
        · first | rfl | (simp [*]; done) | (simp [*, gm_us, gm_un1, gm_un2]; done)
        · first | rfl | (simp [*]; done) | (simp [*, gm_us, gm_un1, gm_un2]; done)
      ·
        exact absurd (by rw [hq2 q]; exact nI_le (Nat.le_refl _) (by omega)) h17
    · try dsimp only at ih ⊢
      refine go_iload_n hC dX0_dropFirst_12 rfl ?_
      refine go_aload_n hC dX0_dropFirst_13 rfl ?_
      refine go_geti (ci := 0) hC 2 kwX0_dropFirst_0 rfl rfl (by decide) rfl lkX0_dropFirst_22 (by first | decide | (show _ < 5; omega) | (show _ < 10; omega) | omega) dX0_dropFirst_14 ?_
      refine go_icmp_ge hC 54 dX0_dropFirst_17 (by decide) (fun h17 => ?_) (fun h17 => ?_)
      ·
        exact absurd h17 (by rw [hq2 j]; exact nI_ge hj (by omega))
      ·
        refine go_aload_n hC dX0_dropFirst_20 rfl ?_
        refine go_getr (ci := 0) hC 0 kwX0_dropFirst_0 rfl rfl (by decide) rfl lkX0_dropFirst_9 (by first | decide | (show _ < 5; omega) | (show _ < 10; omega) | omega) dX0_dropFirst_21 ?_
        refine go_iload_n hC dX0_dropFirst_24 rfl ?_
        refine go_aload_n hC dX0_dropFirst_25 rfl ?_
        refine go_getr (ci := 0) hC 0 kwX0_dropFirst_0 rfl rfl (by decide) rfl lkX0_dropFirst_9 (by first | decide | (show _ < 5; omega) | (show _ < 10; omega) | omega) dX0_dropFirst_26 ?_
        refine go_iload_n hC dX0_dropFirst_29 rfl ?_
        refine go_iconst (v := 1) hC dX0_dropFirst_30 (by decide) ?_
        refine go_iadd hC dX0_dropFirst_31 ?_
        refine go_iald hC rfl (by first | decide | (show _ < 5; omega) | (show _ < 10; omega) | omega) (gm_in (nI_1 j) (by omega) (by decide)) (gm_cl (nI_1 j) (by omega)) dX0_dropFirst_32 ?_
        refine go_iast hC rfl (by first | decide | (show _ < 5; omega) | (show _ < 10; omega) | omega) (gm_in rfl (by omega) (by decide)) (gm_cl rfl (by omega)) dX0_dropFirst_33 ?_
        refine go_aload_n hC dX0_dropFirst_34 rfl ?_
        refine go_getr (ci := 0) hC 1 kwX0_dropFirst_0 rfl rfl (by decide) rfl lkX0_dropFirst_15 (by first | decide | (show _ < 5; omega) | (show _ < 10; omega) | omega) dX0_dropFirst_35 ?_
        refine go_iload_n hC dX0_dropFirst_38 rfl ?_
        refine go_aload_n hC dX0_dropFirst_39 rfl ?_
        refine go_getr (ci := 0) hC 1 kwX0_dropFirst_0 rfl rfl (by decide) rfl lkX0_dropFirst_15 (by first | decide | (show _ < 5; omega) | (show _ < 10; omega) | omega) dX0_dropFirst_40 ?_
        refine go_iload_n hC dX0_dropFirst_43 rfl ?_
        refine go_iconst (v := 1) hC dX0_dropFirst_44 (by decide) ?_
        refine go_iadd hC dX0_dropFirst_45 ?_
        refine go_iald hC rfl (by first | decide | (show _ < 5; omega) | (show _ < 10; omega) | omega) (gm_in (nI_1 j) (by omega) (by decide)) (gm_cl (nI_1 j) (by omega)) dX0_dropFirst_46 ?_
        refine go_iast hC rfl (by first | decide | (show _ < 5; omega) | (show _ < 10; omega) | omega) (gm_in rfl (by omega) (by decide)) (gm_cl rfl (by omega)) dX0_dropFirst_47 ?_
        refine go_iinc (v := 1) hC dX0_dropFirst_48 rfl (by decide) ?_
        simp only [gm_s0, gm_s1]
        refine go_goto hC 12 dX0_dropFirst_51 (by decide) ?_
        rw [nI_1]
        refine go_mem ?_ ih
        simp only [iter, cDrop1]
        rw [gm_un1 (by decide)]
  try dsimp only at lp12
  refine go_aload_n hC dX0_dropFirst_0 rfl ?_
  refine go_dup hC dX0_dropFirst_1 rfl ?_
  refine go_geti (ci := 0) hC 2 kwX0_dropFirst_0 rfl rfl (by decide) rfl lkX0_dropFirst_22 (by first | decide | (show _ < 5; omega) | (show _ < 10; omega) | omega) dX0_dropFirst_2 ?_
  refine go_iconst (v := 1) hC dX0_dropFirst_5 (by decide) ?_
  refine go_isub hC dX0_dropFirst_6 ?_
  refine go_puti (ci := 0) hC 2 kwX0_dropFirst_0 rfl tyX0 tyX0_ok nmX0 rfl (by decide) rfl lkX0_dropFirst_22 (by first | decide | (show _ < 5; omega) | (show _ < 10; omega) | omega) rfl rfl rfl dX0_dropFirst_7 ?_
  refine go_iconst (v := 0) hC dX0_dropFirst_10 (by decide) ?_
  refine go_istore_n hC 1 dX0_dropFirst_11 rfl (Nat.le_of_ble_eq_true rfl) ?_
  simp only [gm_s0, gm_s1]
  exact lp12
def sureF (f a r : Int32) : Int32 := f + (if (if (0 : Int32) < r - f then r - f else 0) < a then (if (0 : Int32) < r - f then r - f else 0) else a)
def cGive (M : gm_M) (n : Nat) (z : Int32) : gm_M := gm_up (gm_up M 0 10 n 0) 0 9 n (if z = 0 then 0 else sureF (M 0 4 n) (M 0 5 n) (M 0 8 n))
theorem kwX0_giveContracted_0 : ∀ w ∈ wsX00, w ∈ wsX0_giveContracted := by decide +kernel
theorem lkX0_giveContracted_29 : Cond.fieldLink RX0 29 "SharedFibre$Container" "fixed" "I" ∈ wsX0_giveContracted := by decide +kernel
theorem lkX0_giveContracted_32 : Cond.fieldLink RX0 32 "SharedFibre$Container" "assured" "I" ∈ wsX0_giveContracted := by decide +kernel
theorem lkX0_giveContracted_38 : Cond.fieldLink RX0 38 "SharedFibre$Container" "reported" "I" ∈ wsX0_giveContracted := by decide +kernel
theorem lkX0_giveContracted_41 : Cond.fieldLink RX0 41 "SharedFibre$Container" "given" "I" ∈ wsX0_giveContracted := by decide +kernel
theorem lkX0_giveContracted_44 : Cond.fieldLink RX0 44 "SharedFibre$Container" "spare" "I" ∈ wsX0_giveContracted := by decide +kernel
theorem lmX0_giveContracted_max_c : Cond.code Lib.Math.max.name Lib.Math.max.code 2 (some .int) ∈ wsX0_giveContracted := by decide +kernel
theorem lmX0_giveContracted_max_i : Cond.initialized "java/lang/Math" ∈ wsX0_giveContracted := by decide +kernel
theorem lmX0_giveContracted_max_l : Cond.methodLink RX0 47 Lib.Math.max.name ∈ wsX0_giveContracted := by decide +kernel
theorem lmX0_giveContracted_max_s : Cond.static Lib.Math.max.name ∈ wsX0_giveContracted := by decide +kernel
theorem lmX0_giveContracted_min_c : Cond.code Lib.Math.min.name Lib.Math.min.code 2 (some .int) ∈ wsX0_giveContracted := by decide +kernel
theorem lmX0_giveContracted_min_i : Cond.initialized "java/lang/Math" ∈ wsX0_giveContracted := by decide +kernel
theorem lmX0_giveContracted_min_l : Cond.methodLink RX0 53 Lib.Math.min.name ∈ wsX0_giveContracted := by decide +kernel
theorem lmX0_giveContracted_min_s : Cond.static Lib.Math.min.name ∈ wsX0_giveContracted := by decide +kernel
set_option maxHeartbeats 4000000 in
set_option maxRecDepth 100000 in
/-- Container.giveContracted -/
theorem c_X0_giveContracted (M : gm_M) (n : Nat) (hn : n < 10) (z : Int32) : KC lyC yX0_giveContracted wsX0_giveContracted ({ frames := 1, cells := 0, slots := 0, locals := 21 }) (fun ad => [.ref (ad 0 n), .int z]) M (fun _ => none) (cGive M n z) := by
  refine KC.of_v (by decide) rfl rfl (fun _ => by simp) (fun _ => by simp [Value.category])  ?_
  intro X hC hR hX hE
  simp only [List.map_cons, List.map_nil, List.cons_append, List.nil_append, List.length_cons, List.length_nil, List.replicate, Nat.reduceAdd, Nat.reduceSub]
  refine go_aload_n hC dX0_giveContracted_0 rfl ?_
  refine go_iconst (v := 0) hC dX0_giveContracted_1 (by decide) ?_
  refine go_puti (ci := 0) hC 10 kwX0_giveContracted_0 rfl tyX0 tyX0_ok nmX0 rfl (by decide) rfl lkX0_giveContracted_44 (by first | decide | (show _ < 5; omega) | (show _ < 10; omega) | omega) rfl rfl rfl dX0_giveContracted_2 ?_
  refine go_aload_n hC dX0_giveContracted_5 rfl ?_
  refine go_iload_n hC dX0_giveContracted_6 rfl ?_
  refine go_if_eq hC 38 dX0_giveContracted_7 (by decide) (fun h7 => ?_) (fun h7 => ?_)
  ·
    refine go_iconst (v := 0) hC dX0_giveContracted_38 (by decide) ?_
    refine go_puti (ci := 0) hC 9 kwX0_giveContracted_0 rfl tyX0 tyX0_ok nmX0 rfl (by decide) rfl lkX0_giveContracted_41 (by first | decide | (show _ < 5; omega) | (show _ < 10; omega) | omega) rfl rfl rfl dX0_giveContracted_39 ?_
    refine go_cast ?_ ?_ (hE _ _ dX0_giveContracted_42)
    · first | rfl | (simp [*, cGive, sureF]; done) | (simp [*, cGive, sureF, gm_us, gm_un1, gm_un2]; done)
    · first | rfl | (simp [*, cGive, sureF]; done) | (simp [*, cGive, sureF, gm_us, gm_un1, gm_un2]; done)
  ·
    refine go_aload_n hC dX0_giveContracted_10 rfl ?_
    refine go_geti (ci := 0) hC 4 kwX0_giveContracted_0 rfl rfl (by decide) rfl lkX0_giveContracted_29 (by first | decide | (show _ < 5; omega) | (show _ < 10; omega) | omega) dX0_giveContracted_11 ?_
    refine go_aload_n hC dX0_giveContracted_14 rfl ?_
    refine go_geti (ci := 0) hC 5 kwX0_giveContracted_0 rfl rfl (by decide) rfl lkX0_giveContracted_32 (by first | decide | (show _ < 5; omega) | (show _ < 10; omega) | omega) dX0_giveContracted_15 ?_
    refine go_iconst (v := 0) hC dX0_giveContracted_18 (by decide) ?_
    refine go_aload_n hC dX0_giveContracted_19 rfl ?_
    refine go_geti (ci := 0) hC 8 kwX0_giveContracted_0 rfl rfl (by decide) rfl lkX0_giveContracted_38 (by first | decide | (show _ < 5; omega) | (show _ < 10; omega) | omega) dX0_giveContracted_20 ?_
    refine go_aload_n hC dX0_giveContracted_23 rfl ?_
    refine go_geti (ci := 0) hC 4 kwX0_giveContracted_0 rfl rfl (by decide) rfl lkX0_giveContracted_29 (by first | decide | (show _ < 5; omega) | (show _ < 10; omega) | omega) dX0_giveContracted_24 ?_
    refine go_isub hC dX0_giveContracted_27 ?_
    refine go_max hC lmX0_giveContracted_max_l lmX0_giveContracted_max_s lmX0_giveContracted_max_i lmX0_giveContracted_max_c (by rw [hR]; exact ⟨by decide, Nat.le_of_ble_eq_true rfl⟩) (by rw [hR]; exact ⟨by decide, by decide⟩) rfl dX0_giveContracted_28 ?_
    refine go_min hC lmX0_giveContracted_min_l lmX0_giveContracted_min_s lmX0_giveContracted_min_i lmX0_giveContracted_min_c (by rw [hR]; exact ⟨by decide, Nat.le_of_ble_eq_true rfl⟩) (by rw [hR]; exact ⟨by decide, by decide⟩) rfl dX0_giveContracted_31 ?_
    refine go_iadd hC dX0_giveContracted_34 ?_
    refine go_goto hC 39 dX0_giveContracted_35 (by decide) ?_
    refine go_puti (ci := 0) hC 9 kwX0_giveContracted_0 rfl tyX0 tyX0_ok nmX0 rfl (by decide) rfl lkX0_giveContracted_41 (by first | decide | (show _ < 5; omega) | (show _ < 10; omega) | omega) rfl rfl rfl dX0_giveContracted_39 ?_
    refine go_cast ?_ ?_ (hE _ _ dX0_giveContracted_42)
    · first | rfl | (simp [*, cGive, sureF]; done) | (simp [*, cGive, sureF, gm_us, gm_un1, gm_un2]; done)
    · first | rfl | (simp [*, cGive, sureF]; done) | (simp [*, cGive, sureF, gm_us, gm_un1, gm_un2]; done)
theorem kwX0_wants_0 : ∀ w ∈ wsX00, w ∈ wsX0_wants := by decide +kernel
theorem lkX0_wants_35 : Cond.fieldLink RX0 35 "SharedFibre$Container" "most" "I" ∈ wsX0_wants := by decide +kernel
theorem lkX0_wants_38 : Cond.fieldLink RX0 38 "SharedFibre$Container" "reported" "I" ∈ wsX0_wants := by decide +kernel
theorem lkX0_wants_41 : Cond.fieldLink RX0 41 "SharedFibre$Container" "given" "I" ∈ wsX0_wants := by decide +kernel
set_option maxHeartbeats 4000000 in
set_option maxRecDepth 100000 in
/-- Container.wants -/
theorem c_X0_wants (M : gm_M) (n : Nat) (hn : n < 10) : KC lyC yX0_wants wsX0_wants ({ frames := 0, cells := 0, slots := 0, locals := 0 }) (fun ad => [.ref (ad 0 n)]) M (fun _ => some (.int (if ¬ M 0 6 n ≤ M 0 9 n ∧ ¬ M 0 8 n ≤ M 0 9 n then 1 else 0))) (M) := by
  refine KC.of_z (by decide) rfl rfl (fun _ => by simp) (fun _ => by simp [Value.category]) (by split <;> decide) ?_
  intro X hC hR hX hE
  simp only [List.map_cons, List.map_nil, List.cons_append, List.nil_append, List.length_cons, List.length_nil, List.replicate, Nat.reduceAdd, Nat.reduceSub]
  refine go_aload_n hC dX0_wants_0 rfl ?_
  refine go_geti (ci := 0) hC 9 kwX0_wants_0 rfl rfl (by decide) rfl lkX0_wants_41 (by first | decide | (show _ < 5; omega) | (show _ < 10; omega) | omega) dX0_wants_1 ?_
  refine go_aload_n hC dX0_wants_4 rfl ?_
  refine go_geti (ci := 0) hC 6 kwX0_wants_0 rfl rfl (by decide) rfl lkX0_wants_35 (by first | decide | (show _ < 5; omega) | (show _ < 10; omega) | omega) dX0_wants_5 ?_
  refine go_icmp_ge hC 26 dX0_wants_8 (by decide) (fun h8 => ?_) (fun h8 => ?_)
  ·
    refine go_iconst (v := 0) hC dX0_wants_26 (by decide) ?_
    refine go_cast ?_ ?_ (hE _ _ dX0_wants_27)
    · first | rfl | (simp [*]; done) | (simp [*, gm_us, gm_un1, gm_un2]; done)
    · first | rfl | (simp [*]; done) | (simp [*, gm_us, gm_un1, gm_un2]; done)
  ·
    refine go_aload_n hC dX0_wants_11 rfl ?_
    refine go_geti (ci := 0) hC 9 kwX0_wants_0 rfl rfl (by decide) rfl lkX0_wants_41 (by first | decide | (show _ < 5; omega) | (show _ < 10; omega) | omega) dX0_wants_12 ?_
    refine go_aload_n hC dX0_wants_15 rfl ?_
    refine go_geti (ci := 0) hC 8 kwX0_wants_0 rfl rfl (by decide) rfl lkX0_wants_38 (by first | decide | (show _ < 5; omega) | (show _ < 10; omega) | omega) dX0_wants_16 ?_
    refine go_icmp_ge hC 26 dX0_wants_19 (by decide) (fun h19 => ?_) (fun h19 => ?_)
    ·
      refine go_iconst (v := 0) hC dX0_wants_26 (by decide) ?_
      refine go_cast ?_ ?_ (hE _ _ dX0_wants_27)
      · first | rfl | (simp [*]; done) | (simp [*, gm_us, gm_un1, gm_un2]; done)
      · first | rfl | (simp [*]; done) | (simp [*, gm_us, gm_un1, gm_un2]; done)
    ·
      refine go_iconst (v := 1) hC dX0_wants_22 (by decide) ?_
      refine go_goto hC 27 dX0_wants_23 (by decide) ?_
      refine go_cast ?_ ?_ (hE _ _ dX0_wants_27)
      · first | rfl | (simp [*]; done) | (simp [*, gm_us, gm_un1, gm_un2]; done)
      · first | rfl | (simp [*]; done) | (simp [*, gm_us, gm_un1, gm_un2]; done)
theorem kwX0_hasLessSpareThan_0 : ∀ w ∈ wsX00, w ∈ wsX0_hasLessSpareThan := by decide +kernel
theorem lkX0_hasLessSpareThan_18 : Cond.fieldLink RX0 18 "SharedFibre$Container" "weight" "I" ∈ wsX0_hasLessSpareThan := by decide +kernel
theorem lkX0_hasLessSpareThan_44 : Cond.fieldLink RX0 44 "SharedFibre$Container" "spare" "I" ∈ wsX0_hasLessSpareThan := by decide +kernel
set_option maxHeartbeats 4000000 in
set_option maxRecDepth 100000 in
/-- Container.hasLessSpareThan -/
theorem c_X0_hasLessSpareThan (M : gm_M) (n n2 : Nat) (hn : n < 10) (hn2 : n2 < 10) : KC lyC yX0_hasLessSpareThan wsX0_hasLessSpareThan ({ frames := 0, cells := 0, slots := 0, locals := 0 }) (fun ad => [.ref (ad 0 n), .ref (ad 0 n2)]) M (fun _ => some (.int (if ¬ M 0 10 n2 * M 0 7 n ≤ M 0 10 n * M 0 7 n2 then 1 else 0))) (M) := by
  refine KC.of_z (by decide) rfl rfl (fun _ => by simp) (fun _ => by simp [Value.category]) (by split <;> decide) ?_
  intro X hC hR hX hE
  simp only [List.map_cons, List.map_nil, List.cons_append, List.nil_append, List.length_cons, List.length_nil, List.replicate, Nat.reduceAdd, Nat.reduceSub]
  refine go_aload_n hC dX0_hasLessSpareThan_0 rfl ?_
  refine go_geti (ci := 0) hC 10 kwX0_hasLessSpareThan_0 rfl rfl (by decide) rfl lkX0_hasLessSpareThan_44 (by first | decide | (show _ < 5; omega) | (show _ < 10; omega) | omega) dX0_hasLessSpareThan_1 ?_
  refine go_aload_n hC dX0_hasLessSpareThan_4 rfl ?_
  refine go_geti (ci := 0) hC 7 kwX0_hasLessSpareThan_0 rfl rfl (by decide) rfl lkX0_hasLessSpareThan_18 (by first | decide | (show _ < 5; omega) | (show _ < 10; omega) | omega) dX0_hasLessSpareThan_5 ?_
  refine go_imul hC dX0_hasLessSpareThan_8 ?_
  refine go_aload_n hC dX0_hasLessSpareThan_9 rfl ?_
  refine go_geti (ci := 0) hC 10 kwX0_hasLessSpareThan_0 rfl rfl (by decide) rfl lkX0_hasLessSpareThan_44 (by first | decide | (show _ < 5; omega) | (show _ < 10; omega) | omega) dX0_hasLessSpareThan_10 ?_
  refine go_aload_n hC dX0_hasLessSpareThan_13 rfl ?_
  refine go_geti (ci := 0) hC 7 kwX0_hasLessSpareThan_0 rfl rfl (by decide) rfl lkX0_hasLessSpareThan_18 (by first | decide | (show _ < 5; omega) | (show _ < 10; omega) | omega) dX0_hasLessSpareThan_14 ?_
  refine go_imul hC dX0_hasLessSpareThan_17 ?_
  refine go_icmp_ge hC 25 dX0_hasLessSpareThan_18 (by decide) (fun h18 => ?_) (fun h18 => ?_)
  ·
    refine go_iconst (v := 0) hC dX0_hasLessSpareThan_25 (by decide) ?_
    refine go_cast ?_ ?_ (hE _ _ dX0_hasLessSpareThan_26)
    · first | rfl | (simp [*]; done) | (simp [*, gm_us, gm_un1, gm_un2]; done)
    · first | rfl | (simp [*]; done) | (simp [*, gm_us, gm_un1, gm_un2]; done)
  ·
    refine go_iconst (v := 1) hC dX0_hasLessSpareThan_21 (by decide) ?_
    refine go_goto hC 26 dX0_hasLessSpareThan_22 (by decide) ?_
    refine go_cast ?_ ?_ (hE _ _ dX0_hasLessSpareThan_26)
    · first | rfl | (simp [*]; done) | (simp [*, gm_us, gm_un1, gm_un2]; done)
    · first | rfl | (simp [*]; done) | (simp [*, gm_us, gm_un1, gm_un2]; done)
end
section
/-! ===== the class: units ===== -/
def uClr0 (M : gm_M) (n : Nat) : gm_M := gm_up (gm_up (gm_up (gm_up (gm_up (gm_up (gm_up (gm_up (gm_up (gm_up (gm_up (gm_up (gm_up (gm_up M 1 1 n 0) 1 2 n 0) 1 3 n 0) 1 4 n 0) 1 5 n 0) 1 6 n 0) 1 7 n 0) 1 8 n 0) 1 9 n 0) 1 10 n 0) 1 11 n 0) 1 12 n 0) 1 13 n 0) 1 14 n 0
def uClear (M : gm_M) (n : Nat) : gm_M := iter (fun k M => cClear M (2 * n + k)) 2 (uClr0 M n)
theorem kwX1_clear_1 : ∀ w ∈ wsX10, w ∈ wsX1_clear := by decide +kernel
theorem lkX1_clear_11 : Cond.fieldLink RX1 11 "SharedFibre$Unit" "containers" "[LSharedFibre$Container;" ∈ wsX1_clear := by decide +kernel
theorem lkX1_clear_18 : Cond.fieldLink RX1 18 "SharedFibre$Unit" "state" "I" ∈ wsX1_clear := by decide +kernel
theorem lkX1_clear_22 : Cond.fieldLink RX1 22 "SharedFibre$Unit" "serial" "I" ∈ wsX1_clear := by decide +kernel
theorem lkX1_clear_25 : Cond.fieldLink RX1 25 "SharedFibre$Unit" "way" "I" ∈ wsX1_clear := by decide +kernel
theorem lkX1_clear_28 : Cond.fieldLink RX1 28 "SharedFibre$Unit" "answered" "I" ∈ wsX1_clear := by decide +kernel
theorem lkX1_clear_31 : Cond.fieldLink RX1 31 "SharedFibre$Unit" "error" "I" ∈ wsX1_clear := by decide +kernel
theorem lkX1_clear_34 : Cond.fieldLink RX1 34 "SharedFibre$Unit" "keyInForce" "I" ∈ wsX1_clear := by decide +kernel
theorem lkX1_clear_37 : Cond.fieldLink RX1 37 "SharedFibre$Unit" "keyWaits" "Z" ∈ wsX1_clear := by decide +kernel
theorem lkX1_clear_41 : Cond.fieldLink RX1 41 "SharedFibre$Unit" "waitingKey" "I" ∈ wsX1_clear := by decide +kernel
theorem lkX1_clear_44 : Cond.fieldLink RX1 44 "SharedFibre$Unit" "toldKey" "I" ∈ wsX1_clear := by decide +kernel
theorem lkX1_clear_47 : Cond.fieldLink RX1 47 "SharedFibre$Unit" "wordWaits" "Z" ∈ wsX1_clear := by decide +kernel
theorem lkX1_clear_50 : Cond.fieldLink RX1 50 "SharedFibre$Unit" "waitingWord" "I" ∈ wsX1_clear := by decide +kernel
theorem lkX1_clear_53 : Cond.fieldLink RX1 53 "SharedFibre$Unit" "madeOut" "I" ∈ wsX1_clear := by decide +kernel
theorem lkX1_clear_56 : Cond.fieldLink RX1 56 "SharedFibre$Unit" "sentAs" "I" ∈ wsX1_clear := by decide +kernel
theorem lkX1_clear_59 : Cond.fieldLink RX1 59 "SharedFibre$Unit" "spoilt" "Z" ∈ wsX1_clear := by decide +kernel
set_option maxHeartbeats 4000000 in
set_option maxRecDepth 100000 in
/-- Unit.clear -/
theorem c_X1_clear (M : gm_M) (n : Nat) (hn : n < 5) : KC lyC yX1_clear wsX1_clear ({ frames := 1, cells := 0, slots := 0, locals := 20 }) (fun ad => [.ref (ad 1 n)]) M (fun _ => none) (uClear M n) := by
  refine KC.of_v (by decide) rfl rfl (fun _ => by simp) (fun _ => by simp [Value.category])  ?_
  intro X hC hR hX hE
  simp only [List.map_cons, List.map_nil, List.cons_append, List.nil_append, List.length_cons, List.length_nil, List.replicate, Nat.reduceAdd, Nat.reduceSub]
  have lp80 : (fun j : Nat => GO lyC X 0 0 80 [some (.ref (gm_ad X 1 n)), some (.ref (gm_ad X 9 n)), some (.int 2), some (.int (nI j)), none] [] (iter (fun k M => cClear M (2 * n + k)) j (uClr0 M n))) 0 := by
    refine loopN (2) (fun j : Nat => GO lyC X 0 0 80 [some (.ref (gm_ad X 1 n)), some (.ref (gm_ad X 9 n)), some (.int 2), some (.int (nI j)), none] [] (iter (fun k M => cClear M (2 * n + k)) j (uClr0 M n))) ?_ (fun j hj ih => ?_)
    · try dsimp only
      refine go_iload_n hC dX1_clear_80 rfl ?_
      refine go_iload_n hC dX1_clear_81 rfl ?_
      refine go_icmp_ge hC 101 dX1_clear_82 (by decide) (fun h82 => ?_) (fun h82 => ?_)
      ·
        refine go_cast ?_ ?_ (hE _ _ dX1_clear_101)
        · first | rfl | (simp [*]; done) | (simp [*, gm_us, gm_un1, gm_un2]; done)
        · first | rfl | (simp [*]; done) | (simp [*, gm_us, gm_un1, gm_un2]; done)
      ·
        exact absurd (show nI 2 ≤ nI 2 from nI_le (Nat.le_refl _) (by decide)) h82
    · try dsimp only at ih ⊢
      refine go_iload_n hC dX1_clear_80 rfl ?_
      refine go_iload_n hC dX1_clear_81 rfl ?_
      refine go_icmp_ge hC 101 dX1_clear_82 (by decide) (fun h82 => ?_) (fun h82 => ?_)
      ·
        exact absurd h82 (show ¬ nI 2 ≤ nI j from nI_ge hj (by decide))
      ·
        refine go_aload_n hC dX1_clear_85 rfl ?_
        refine go_iload_n hC dX1_clear_86 rfl ?_
        refine go_aald hC rfl (fun _ => rfl) (by first | decide | (show _ < 5; omega) | (show _ < 10; omega) | omega) (gm_in rfl (by omega) (by decide)) (gm_cl5 rfl (by omega)) dX1_clear_87 ?_
        refine go_astore hC dX1_clear_88 (Nat.le_of_ble_eq_true rfl) ?_
        simp only [gm_s0, gm_s1]
        refine go_aload hC dX1_clear_90 rfl ?_
        refine go_callV (n := 0) (k0 := 0) (n0 := 2 * n + j) hC hX (c_X0_clear _ _ (by omega)) gX1_clear_X0_clear rfl (by decide +kernel) ⟨rfl, rfl⟩ (by rw [hR]; exact ⟨by decide, by decide⟩) (by rw [hR]; exact ⟨by decide, by decide⟩) rfl rfl rfl (by first | decide | (show _ < 5; omega) | (show _ < 10; omega) | omega) rfl rfl rfl (Nat.le_of_ble_eq_true rfl) dX1_clear_92 ?_
        simp only [gm_r0, gm_r1]
        refine go_iinc (v := 1) hC dX1_clear_95 rfl (by decide) ?_
        simp only [gm_s0, gm_s1]
        refine go_goto hC 80 dX1_clear_98 (by decide) ?_
        rw [nI_1]
        refine go_sub ih ?_
        repeat (first | exact gm_le_nil | refine gm_le_c ?_ | refine gm_le_n ?_)
  try dsimp only at lp80
  refine go_aload_n hC dX1_clear_0 rfl ?_
  refine go_iconst (v := 0) hC dX1_clear_1 (by decide) ?_
  refine go_puti (ci := 1) hC 1 kwX1_clear_1 rfl tyX1 tyX1_ok nmX1 rfl (by decide) rfl lkX1_clear_18 (by first | decide | (show _ < 5; omega) | (show _ < 10; omega) | omega) rfl rfl rfl dX1_clear_2 ?_
  refine go_aload_n hC dX1_clear_5 rfl ?_
  refine go_iconst (v := 0) hC dX1_clear_6 (by decide) ?_
  refine go_puti (ci := 1) hC 2 kwX1_clear_1 rfl tyX1 tyX1_ok nmX1 rfl (by decide) rfl lkX1_clear_22 (by first | decide | (show _ < 5; omega) | (show _ < 10; omega) | omega) rfl rfl rfl dX1_clear_7 ?_
  refine go_aload_n hC dX1_clear_10 rfl ?_
  refine go_iconst (v := 0) hC dX1_clear_11 (by decide) ?_
  refine go_puti (ci := 1) hC 3 kwX1_clear_1 rfl tyX1 tyX1_ok nmX1 rfl (by decide) rfl lkX1_clear_25 (by first | decide | (show _ < 5; omega) | (show _ < 10; omega) | omega) rfl rfl rfl dX1_clear_12 ?_
  refine go_aload_n hC dX1_clear_15 rfl ?_
  refine go_iconst (v := 0) hC dX1_clear_16 (by decide) ?_
  refine go_puti (ci := 1) hC 4 kwX1_clear_1 rfl tyX1 tyX1_ok nmX1 rfl (by decide) rfl lkX1_clear_28 (by first | decide | (show _ < 5; omega) | (show _ < 10; omega) | omega) rfl rfl rfl dX1_clear_17 ?_
  refine go_aload_n hC dX1_clear_20 rfl ?_
  refine go_iconst (v := 0) hC dX1_clear_21 (by decide) ?_
  refine go_puti (ci := 1) hC 5 kwX1_clear_1 rfl tyX1 tyX1_ok nmX1 rfl (by decide) rfl lkX1_clear_31 (by first | decide | (show _ < 5; omega) | (show _ < 10; omega) | omega) rfl rfl rfl dX1_clear_22 ?_
  refine go_aload_n hC dX1_clear_25 rfl ?_
  refine go_iconst (v := 0) hC dX1_clear_26 (by decide) ?_
  refine go_puti (ci := 1) hC 6 kwX1_clear_1 rfl tyX1 tyX1_ok nmX1 rfl (by decide) rfl lkX1_clear_34 (by first | decide | (show _ < 5; omega) | (show _ < 10; omega) | omega) rfl rfl rfl dX1_clear_27 ?_
  refine go_aload_n hC dX1_clear_30 rfl ?_
  refine go_iconst (v := 0) hC dX1_clear_31 (by decide) ?_
  refine go_puti (ci := 1) hC 7 kwX1_clear_1 rfl tyX1 tyX1_ok nmX1 rfl (by decide) rfl lkX1_clear_37 (by first | decide | (show _ < 5; omega) | (show _ < 10; omega) | omega) rfl (by decide) (by decide) dX1_clear_32 ?_
  refine go_aload_n hC dX1_clear_35 rfl ?_
  refine go_iconst (v := 0) hC dX1_clear_36 (by decide) ?_
  refine go_puti (ci := 1) hC 8 kwX1_clear_1 rfl tyX1 tyX1_ok nmX1 rfl (by decide) rfl lkX1_clear_41 (by first | decide | (show _ < 5; omega) | (show _ < 10; omega) | omega) rfl rfl rfl dX1_clear_37 ?_
  refine go_aload_n hC dX1_clear_40 rfl ?_
  refine go_iconst (v := 0) hC dX1_clear_41 (by decide) ?_
  refine go_puti (ci := 1) hC 9 kwX1_clear_1 rfl tyX1 tyX1_ok nmX1 rfl (by decide) rfl lkX1_clear_44 (by first | decide | (show _ < 5; omega) | (show _ < 10; omega) | omega) rfl rfl rfl dX1_clear_42 ?_
  refine go_aload_n hC dX1_clear_45 rfl ?_
  refine go_iconst (v := 0) hC dX1_clear_46 (by decide) ?_
  refine go_puti (ci := 1) hC 10 kwX1_clear_1 rfl tyX1 tyX1_ok nmX1 rfl (by decide) rfl lkX1_clear_47 (by first | decide | (show _ < 5; omega) | (show _ < 10; omega) | omega) rfl (by decide) (by decide) dX1_clear_47 ?_
  refine go_aload_n hC dX1_clear_50 rfl ?_
  refine go_iconst (v := 0) hC dX1_clear_51 (by decide) ?_
  refine go_puti (ci := 1) hC 11 kwX1_clear_1 rfl tyX1 tyX1_ok nmX1 rfl (by decide) rfl lkX1_clear_50 (by first | decide | (show _ < 5; omega) | (show _ < 10; omega) | omega) rfl rfl rfl dX1_clear_52 ?_
  refine go_aload_n hC dX1_clear_55 rfl ?_
  refine go_iconst (v := 0) hC dX1_clear_56 (by decide) ?_
  refine go_puti (ci := 1) hC 12 kwX1_clear_1 rfl tyX1 tyX1_ok nmX1 rfl (by decide) rfl lkX1_clear_53 (by first | decide | (show _ < 5; omega) | (show _ < 10; omega) | omega) rfl rfl rfl dX1_clear_57 ?_
  refine go_aload_n hC dX1_clear_60 rfl ?_
  refine go_iconst (v := 0) hC dX1_clear_61 (by decide) ?_
  refine go_puti (ci := 1) hC 13 kwX1_clear_1 rfl tyX1 tyX1_ok nmX1 rfl (by decide) rfl lkX1_clear_56 (by first | decide | (show _ < 5; omega) | (show _ < 10; omega) | omega) rfl rfl rfl dX1_clear_62 ?_
  refine go_aload_n hC dX1_clear_65 rfl ?_
  refine go_iconst (v := 0) hC dX1_clear_66 (by decide) ?_
  refine go_puti (ci := 1) hC 14 kwX1_clear_1 rfl tyX1 tyX1_ok nmX1 rfl (by decide) rfl lkX1_clear_59 (by first | decide | (show _ < 5; omega) | (show _ < 10; omega) | omega) rfl (by decide) (by decide) dX1_clear_67 ?_
  refine go_aload_n hC dX1_clear_70 rfl ?_
  refine go_getr (ci := 1) hC 0 kwX1_clear_1 rfl rfl (by decide) rfl lkX1_clear_11 (by first | decide | (show _ < 5; omega) | (show _ < 10; omega) | omega) dX1_clear_71 ?_
  refine go_astore_n hC 1 dX1_clear_74 rfl (Nat.le_of_ble_eq_true rfl) ?_
  simp only [gm_s0, gm_s1]
  refine go_aload_n hC dX1_clear_75 rfl ?_
  refine go_alenr (v := 2) hC rfl (fun _ => rfl) (by first | decide | (show _ < 5; omega) | (show _ < 10; omega) | omega) (by decide) dX1_clear_76 ?_
  refine go_istore_n hC 2 dX1_clear_77 rfl (Nat.le_of_ble_eq_true rfl) ?_
  simp only [gm_s0, gm_s1]
  refine go_iconst (v := 0) hC dX1_clear_78 (by decide) ?_
  refine go_istore_n hC 3 dX1_clear_79 rfl (Nat.le_of_ble_eq_true rfl) ?_
  simp only [gm_s0, gm_s1]
  exact lp80
theorem kwX1_answerWindow_1 : ∀ w ∈ wsX10, w ∈ wsX1_answerWindow := by decide +kernel
theorem lkX1_answerWindow_22 : Cond.fieldLink RX1 22 "SharedFibre$Unit" "serial" "I" ∈ wsX1_answerWindow := by decide +kernel
theorem lkX1_answerWindow_28 : Cond.fieldLink RX1 28 "SharedFibre$Unit" "answered" "I" ∈ wsX1_answerWindow := by decide +kernel
theorem lsX1_answerWindow_in : Cond.initialized yX2_mix.cls ∈ wsX1_answerWindow := by decide +kernel
theorem lsX1_answerWindow_st : Cond.static yX2_mix ∈ wsX1_answerWindow := by decide +kernel
set_option maxHeartbeats 4000000 in
set_option maxRecDepth 100000 in
/-- Unit.answerWindow -/
theorem c_X1_answerWindow (M : gm_M) (n : Nat) (hn : n < 5) : KC lyC yX1_answerWindow wsX1_answerWindow ({ frames := 1, cells := 0, slots := 0, locals := 22 }) (fun ad => [.ref (ad 1 n)]) M (fun _ => some (.int (winF (M 1 2 n) (M 1 4 n)))) (M) := by
  refine KC.of_i (by decide) rfl rfl (fun _ => by simp) (fun _ => by simp [Value.category])  ?_
  intro X hC hR hX hE
  simp only [List.map_cons, List.map_nil, List.cons_append, List.nil_append, List.length_cons, List.length_nil, List.replicate, Nat.reduceAdd, Nat.reduceSub]
  refine go_aload_n hC dX1_answerWindow_0 rfl ?_
  refine go_geti (ci := 1) hC 2 kwX1_answerWindow_1 rfl rfl (by decide) rfl lkX1_answerWindow_22 (by first | decide | (show _ < 5; omega) | (show _ < 10; omega) | omega) dX1_answerWindow_1 ?_
  refine go_aload_n hC dX1_answerWindow_4 rfl ?_
  refine go_geti (ci := 1) hC 4 kwX1_answerWindow_1 rfl rfl (by decide) rfl lkX1_answerWindow_28 (by first | decide | (show _ < 5; omega) | (show _ < 10; omega) | omega) dX1_answerWindow_5 ?_
  refine go_callN (n := 2) hC hX (c_X2_mix _ _ _) gX1_answerWindow_X2_mix_n65 lsX1_answerWindow_st lsX1_answerWindow_in rfl (by decide +kernel) ⟨rfl, rfl⟩ (by rw [hR]; exact ⟨by decide, by decide⟩) (by rw [hR]; exact ⟨by decide, by decide⟩) rfl rfl rfl rfl (Nat.le_of_ble_eq_true rfl) dX1_answerWindow_8 ?_
  simp only [gm_r0, gm_r1]
  refine go_iconst (v := 1) hC dX1_answerWindow_11 (by decide) ?_
  refine go_iushr hC dX1_answerWindow_12 ?_
  refine go_bipush (v := 8) hC dX1_answerWindow_13 (by decide) ?_
  refine go_irem hC dX1_answerWindow_15 (by decide) ?_
  refine go_cast ?_ ?_ (hE _ _ dX1_answerWindow_16)
  · first | rfl | (simp [*]; done) | (simp [*, gm_us, gm_un1, gm_un2]; done)
  · first | rfl | (simp [*]; done) | (simp [*, gm_us, gm_un1, gm_un2]; done)
def lenF (M : gm_M) (n : Nat) : Int32 := bx_sum (fun k => 16 * M 0 9 (2 * n + k)) 2 + 16
def lenP (M : gm_M) (n : Nat) : Nat → Int32
  | 0 => 16
  | k + 1 => lenP M n k + 16 * M 0 9 (2 * n + k)
theorem kwX1_burstLength_0 : ∀ w ∈ wsX00, w ∈ wsX1_burstLength := by decide +kernel
theorem kwX1_burstLength_1 : ∀ w ∈ wsX10, w ∈ wsX1_burstLength := by decide +kernel
theorem lkX1_burstLength_11 : Cond.fieldLink RX1 11 "SharedFibre$Unit" "containers" "[LSharedFibre$Container;" ∈ wsX1_burstLength := by decide +kernel
theorem lkX1_burstLength_69 : Cond.fieldLink RX1 69 "SharedFibre$Container" "given" "I" ∈ wsX1_burstLength := by decide +kernel
set_option maxHeartbeats 4000000 in
set_option maxRecDepth 100000 in
/-- Unit.burstLength -/
theorem c_X1_burstLength (M : gm_M) (n : Nat) (hn : n < 5) : KC lyC yX1_burstLength wsX1_burstLength ({ frames := 0, cells := 0, slots := 0, locals := 0 }) (fun ad => [.ref (ad 1 n)]) M (fun _ => some (.int (lenP M n 2))) (M) := by
  refine KC.of_i (by decide) rfl rfl (fun _ => by simp) (fun _ => by simp [Value.category])  ?_
  intro X hC hR hX hE
  simp only [List.map_cons, List.map_nil, List.cons_append, List.nil_append, List.length_cons, List.length_nil, List.replicate, Nat.reduceAdd, Nat.reduceSub]
  have lp14 : (fun j : Nat => GO lyC X 0 0 14 [some (.ref (gm_ad X 1 n)), some (.int (lenP M n j)), some (.ref (gm_ad X 9 n)), some (.int 2), some (.int (nI j)), none] [] M) 0 := by
    refine loopN (2) (fun j : Nat => GO lyC X 0 0 14 [some (.ref (gm_ad X 1 n)), some (.int (lenP M n j)), some (.ref (gm_ad X 9 n)), some (.int 2), some (.int (nI j)), none] [] M) ?_ (fun j hj ih => ?_)
    · try dsimp only
      refine go_iload hC dX1_burstLength_14 rfl ?_
      refine go_iload_n hC dX1_burstLength_16 rfl ?_
      refine go_icmp_ge hC 43 dX1_burstLength_17 (by decide) (fun h17 => ?_) (fun h17 => ?_)
      ·
        refine go_iload_n hC dX1_burstLength_43 rfl ?_
        refine go_cast ?_ ?_ (hE _ _ dX1_burstLength_44)
        · first | rfl | (simp [*]; done) | (simp [*, gm_us, gm_un1, gm_un2]; done)
        · first | rfl | (simp [*]; done) | (simp [*, gm_us, gm_un1, gm_un2]; done)
      ·
        exact absurd (show nI 2 ≤ nI 2 from nI_le (Nat.le_refl _) (by decide)) h17
    · try dsimp only at ih ⊢
      refine go_iload hC dX1_burstLength_14 rfl ?_
      refine go_iload_n hC dX1_burstLength_16 rfl ?_
      refine go_icmp_ge hC 43 dX1_burstLength_17 (by decide) (fun h17 => ?_) (fun h17 => ?_)
      ·
        exact absurd h17 (show ¬ nI 2 ≤ nI j from nI_ge hj (by decide))
      ·
        refine go_aload_n hC dX1_burstLength_20 rfl ?_
        refine go_iload hC dX1_burstLength_21 rfl ?_
        refine go_aald hC rfl (fun _ => rfl) (by first | decide | (show _ < 5; omega) | (show _ < 10; omega) | omega) (gm_in rfl (by omega) (by decide)) (gm_cl5 rfl (by omega)) dX1_burstLength_23 ?_
        refine go_astore hC dX1_burstLength_24 (Nat.le_of_ble_eq_true rfl) ?_
        simp only [gm_s0, gm_s1]
        refine go_iload_n hC dX1_burstLength_26 rfl ?_
        refine go_bipush (v := 16) hC dX1_burstLength_27 (by decide) ?_
        refine go_aload hC dX1_burstLength_29 rfl ?_
        refine go_geti (ci := 0) hC 9 kwX1_burstLength_0 rfl rfl (by decide) rfl lkX1_burstLength_69 (by first | decide | (show _ < 5; omega) | (show _ < 10; omega) | omega) dX1_burstLength_31 ?_
        refine go_imul hC dX1_burstLength_34 ?_
        refine go_iadd hC dX1_burstLength_35 ?_
        refine go_istore_n hC 1 dX1_burstLength_36 rfl (Nat.le_of_ble_eq_true rfl) ?_
        simp only [gm_s0, gm_s1]
        refine go_iinc (v := 1) hC dX1_burstLength_37 rfl (by decide) ?_
        simp only [gm_s0, gm_s1]
        refine go_goto hC 14 dX1_burstLength_40 (by decide) ?_
        rw [nI_1]
        refine go_sub ih ?_
        repeat (first | exact gm_le_nil | refine gm_le_c ?_ | refine gm_le_n ?_)
  try dsimp only at lp14
  refine go_bipush (v := 16) hC dX1_burstLength_0 (by decide) ?_
  refine go_istore_n hC 1 dX1_burstLength_2 rfl (Nat.le_of_ble_eq_true rfl) ?_
  simp only [gm_s0, gm_s1]
  refine go_aload_n hC dX1_burstLength_3 rfl ?_
  refine go_getr (ci := 1) hC 0 kwX1_burstLength_1 rfl rfl (by decide) rfl lkX1_burstLength_11 (by first | decide | (show _ < 5; omega) | (show _ < 10; omega) | omega) dX1_burstLength_4 ?_
  refine go_astore_n hC 2 dX1_burstLength_7 rfl (Nat.le_of_ble_eq_true rfl) ?_
  simp only [gm_s0, gm_s1]
  refine go_aload_n hC dX1_burstLength_8 rfl ?_
  refine go_alenr (v := 2) hC rfl (fun _ => rfl) (by first | decide | (show _ < 5; omega) | (show _ < 10; omega) | omega) (by decide) dX1_burstLength_9 ?_
  refine go_istore_n hC 3 dX1_burstLength_10 rfl (Nat.le_of_ble_eq_true rfl) ?_
  simp only [gm_s0, gm_s1]
  refine go_iconst (v := 0) hC dX1_burstLength_11 (by decide) ?_
  refine go_istore hC dX1_burstLength_12 (Nat.le_of_ble_eq_true rfl) ?_
  simp only [gm_s0, gm_s1]
  exact lp14
def uWord (M : gm_M) (n : Nat) (f : Int32) : gm_M := if M 1 10 n = 0 then M else gm_up (gm_up (gm_up M 1 13 n (M 1 11 n ^^^ mixF (M 1 6 n) f)) 1 12 n ((M 1 11 n ^^^ mixF (M 1 6 n) f) ^^^ mixF (M 1 6 n) f)) 1 10 n 0
theorem kwX1_takeWord_1 : ∀ w ∈ wsX10, w ∈ wsX1_takeWord := by decide +kernel
theorem lkX1_takeWord_34 : Cond.fieldLink RX1 34 "SharedFibre$Unit" "keyInForce" "I" ∈ wsX1_takeWord := by decide +kernel
theorem lkX1_takeWord_47 : Cond.fieldLink RX1 47 "SharedFibre$Unit" "wordWaits" "Z" ∈ wsX1_takeWord := by decide +kernel
theorem lkX1_takeWord_50 : Cond.fieldLink RX1 50 "SharedFibre$Unit" "waitingWord" "I" ∈ wsX1_takeWord := by decide +kernel
theorem lkX1_takeWord_53 : Cond.fieldLink RX1 53 "SharedFibre$Unit" "madeOut" "I" ∈ wsX1_takeWord := by decide +kernel
theorem lkX1_takeWord_56 : Cond.fieldLink RX1 56 "SharedFibre$Unit" "sentAs" "I" ∈ wsX1_takeWord := by decide +kernel
theorem lsX1_takeWord_in : Cond.initialized yX2_mix.cls ∈ wsX1_takeWord := by decide +kernel
theorem lsX1_takeWord_st : Cond.static yX2_mix ∈ wsX1_takeWord := by decide +kernel
set_option maxHeartbeats 4000000 in
set_option maxRecDepth 100000 in
/-- Unit.takeWord -/
theorem c_X1_takeWord (M : gm_M) (n : Nat) (hn : n < 5) (f : Int32) : KC lyC yX1_takeWord wsX1_takeWord ({ frames := 1, cells := 0, slots := 0, locals := 22 }) (fun ad => [.ref (ad 1 n), .int f]) M (fun _ => none) (uWord M n f) := by
  refine KC.of_v (by decide) rfl rfl (fun _ => by simp) (fun _ => by simp [Value.category])  ?_
  intro X hC hR hX hE
  simp only [List.map_cons, List.map_nil, List.cons_append, List.nil_append, List.length_cons, List.length_nil, List.replicate, Nat.reduceAdd, Nat.reduceSub]
  refine go_aload_n hC dX1_takeWord_0 rfl ?_
  refine go_geti (ci := 1) hC 10 kwX1_takeWord_1 rfl rfl (by decide) rfl lkX1_takeWord_47 (by first | decide | (show _ < 5; omega) | (show _ < 10; omega) | omega) dX1_takeWord_1 ?_
  refine go_if_eq hC 41 dX1_takeWord_4 (by decide) (fun h4 => ?_) (fun h4 => ?_)
  ·
    refine go_cast ?_ ?_ (hE _ _ dX1_takeWord_41)
    · first | rfl | (simp [*, uWord]; done) | (simp [*, uWord, gm_us, gm_un1, gm_un2]; done)
    · first | rfl | (simp [*, uWord]; done) | (simp [*, uWord, gm_us, gm_un1, gm_un2]; done)
  ·
    refine go_aload_n hC dX1_takeWord_7 rfl ?_
    refine go_geti (ci := 1) hC 6 kwX1_takeWord_1 rfl rfl (by decide) rfl lkX1_takeWord_34 (by first | decide | (show _ < 5; omega) | (show _ < 10; omega) | omega) dX1_takeWord_8 ?_
    refine go_iload_n hC dX1_takeWord_11 rfl ?_
    refine go_callN (n := 2) hC hX (c_X2_mix _ _ _) gX1_takeWord_X2_mix_n65 lsX1_takeWord_st lsX1_takeWord_in rfl (by decide +kernel) ⟨rfl, rfl⟩ (by rw [hR]; exact ⟨by decide, by decide⟩) (by rw [hR]; exact ⟨by decide, by decide⟩) rfl rfl rfl rfl (Nat.le_of_ble_eq_true rfl) dX1_takeWord_12 ?_
    simp only [gm_r0, gm_r1]
    refine go_istore_n hC 2 dX1_takeWord_15 rfl (Nat.le_of_ble_eq_true rfl) ?_
    simp only [gm_s0, gm_s1]
    refine go_aload_n hC dX1_takeWord_16 rfl ?_
    refine go_aload_n hC dX1_takeWord_17 rfl ?_
    refine go_geti (ci := 1) hC 11 kwX1_takeWord_1 rfl rfl (by decide) rfl lkX1_takeWord_50 (by first | decide | (show _ < 5; omega) | (show _ < 10; omega) | omega) dX1_takeWord_18 ?_
    refine go_iload_n hC dX1_takeWord_21 rfl ?_
    refine go_ixor hC dX1_takeWord_22 ?_
    refine go_puti (ci := 1) hC 13 kwX1_takeWord_1 rfl tyX1 tyX1_ok nmX1 rfl (by decide) rfl lkX1_takeWord_56 (by first | decide | (show _ < 5; omega) | (show _ < 10; omega) | omega) rfl rfl rfl dX1_takeWord_23 ?_
    refine go_aload_n hC dX1_takeWord_26 rfl ?_
    refine go_aload_n hC dX1_takeWord_27 rfl ?_
    refine go_geti (ci := 1) hC 13 kwX1_takeWord_1 rfl rfl (by decide) rfl lkX1_takeWord_56 (by first | decide | (show _ < 5; omega) | (show _ < 10; omega) | omega) dX1_takeWord_28 ?_
    refine go_iload_n hC dX1_takeWord_31 rfl ?_
    refine go_ixor hC dX1_takeWord_32 ?_
    refine go_puti (ci := 1) hC 12 kwX1_takeWord_1 rfl tyX1 tyX1_ok nmX1 rfl (by decide) rfl lkX1_takeWord_53 (by first | decide | (show _ < 5; omega) | (show _ < 10; omega) | omega) rfl rfl rfl dX1_takeWord_33 ?_
    refine go_aload_n hC dX1_takeWord_36 rfl ?_
    refine go_iconst (v := 0) hC dX1_takeWord_37 (by decide) ?_
    refine go_puti (ci := 1) hC 10 kwX1_takeWord_1 rfl tyX1 tyX1_ok nmX1 rfl (by decide) rfl lkX1_takeWord_47 (by first | decide | (show _ < 5; omega) | (show _ < 10; omega) | omega) rfl (by decide) (by decide) dX1_takeWord_38 ?_
    refine go_cast ?_ ?_ (hE _ _ dX1_takeWord_41)
    · first | rfl | (simp [*, uWord]; done) | (simp [*, uWord, gm_us, gm_un1, gm_un2]; done)
    · first | rfl | (simp [*, uWord]; done) | (simp [*, uWord, gm_us, gm_un1, gm_un2]; done)
def uKey (M : gm_M) (n : Nat) : gm_M := if M 1 7 n = 0 then M else if M 1 14 n = 0 then gm_up (gm_up (gm_up M 1 9 n (M 1 8 n)) 1 6 n (M 1 8 n)) 1 7 n 0 else gm_up M 1 9 n (M 1 8 n)
theorem kwX1_takeKey_1 : ∀ w ∈ wsX10, w ∈ wsX1_takeKey := by decide +kernel
theorem lkX1_takeKey_34 : Cond.fieldLink RX1 34 "SharedFibre$Unit" "keyInForce" "I" ∈ wsX1_takeKey := by decide +kernel
theorem lkX1_takeKey_37 : Cond.fieldLink RX1 37 "SharedFibre$Unit" "keyWaits" "Z" ∈ wsX1_takeKey := by decide +kernel
theorem lkX1_takeKey_41 : Cond.fieldLink RX1 41 "SharedFibre$Unit" "waitingKey" "I" ∈ wsX1_takeKey := by decide +kernel
theorem lkX1_takeKey_44 : Cond.fieldLink RX1 44 "SharedFibre$Unit" "toldKey" "I" ∈ wsX1_takeKey := by decide +kernel
theorem lkX1_takeKey_59 : Cond.fieldLink RX1 59 "SharedFibre$Unit" "spoilt" "Z" ∈ wsX1_takeKey := by decide +kernel
set_option maxHeartbeats 4000000 in
set_option maxRecDepth 100000 in
/-- Unit.takeKey -/
theorem c_X1_takeKey (M : gm_M) (n : Nat) (hn : n < 5) : KC lyC yX1_takeKey wsX1_takeKey ({ frames := 0, cells := 0, slots := 0, locals := 0 }) (fun ad => [.ref (ad 1 n)]) M (fun _ => none) (uKey M n) := by
  refine KC.of_v (by decide) rfl rfl (fun _ => by simp) (fun _ => by simp [Value.category])  ?_
  intro X hC hR hX hE
  simp only [List.map_cons, List.map_nil, List.cons_append, List.nil_append, List.length_cons, List.length_nil, List.replicate, Nat.reduceAdd, Nat.reduceSub]
  refine go_aload_n hC dX1_takeKey_0 rfl ?_
  refine go_geti (ci := 1) hC 7 kwX1_takeKey_1 rfl rfl (by decide) rfl lkX1_takeKey_37 (by first | decide | (show _ < 5; omega) | (show _ < 10; omega) | omega) dX1_takeKey_1 ?_
  refine go_if_eq hC 35 dX1_takeKey_4 (by decide) (fun h4 => ?_) (fun h4 => ?_)
  ·
    refine go_cast ?_ ?_ (hE _ _ dX1_takeKey_35)
    · first | rfl | (simp [*, uKey]; done) | (simp [*, uKey, gm_us, gm_un1, gm_un2]; done)
    · first | rfl | (simp [*, uKey]; done) | (simp [*, uKey, gm_us, gm_un1, gm_un2]; done)
  ·
    refine go_aload_n hC dX1_takeKey_7 rfl ?_
    refine go_aload_n hC dX1_takeKey_8 rfl ?_
    refine go_geti (ci := 1) hC 8 kwX1_takeKey_1 rfl rfl (by decide) rfl lkX1_takeKey_41 (by first | decide | (show _ < 5; omega) | (show _ < 10; omega) | omega) dX1_takeKey_9 ?_
    refine go_puti (ci := 1) hC 9 kwX1_takeKey_1 rfl tyX1 tyX1_ok nmX1 rfl (by decide) rfl lkX1_takeKey_44 (by first | decide | (show _ < 5; omega) | (show _ < 10; omega) | omega) rfl rfl rfl dX1_takeKey_12 ?_
    refine go_aload_n hC dX1_takeKey_15 rfl ?_
    refine go_geti (ci := 1) hC 14 kwX1_takeKey_1 rfl rfl (by decide) rfl lkX1_takeKey_59 (by first | decide | (show _ < 5; omega) | (show _ < 10; omega) | omega) dX1_takeKey_16 ?_
    refine go_if_ne hC 35 dX1_takeKey_19 (by decide) (fun h19 => ?_) (fun h19 => ?_)
    ·
      rw [gm_un2 (by decide)] at h19
      refine go_cast ?_ ?_ (hE _ _ dX1_takeKey_35)
      · first | rfl | (simp [*, uKey]; done) | (simp [*, uKey, gm_us, gm_un1, gm_un2]; done)
      · first | rfl | (simp [*, uKey]; done) | (simp [*, uKey, gm_us, gm_un1, gm_un2]; done)
    ·
      rw [gm_un2 (by decide)] at h19
      refine go_aload_n hC dX1_takeKey_22 rfl ?_
      refine go_aload_n hC dX1_takeKey_23 rfl ?_
      refine go_geti (ci := 1) hC 8 kwX1_takeKey_1 rfl rfl (by decide) rfl lkX1_takeKey_41 (by first | decide | (show _ < 5; omega) | (show _ < 10; omega) | omega) dX1_takeKey_24 ?_
      refine go_puti (ci := 1) hC 6 kwX1_takeKey_1 rfl tyX1 tyX1_ok nmX1 rfl (by decide) rfl lkX1_takeKey_34 (by first | decide | (show _ < 5; omega) | (show _ < 10; omega) | omega) rfl rfl rfl dX1_takeKey_27 ?_
      refine go_aload_n hC dX1_takeKey_30 rfl ?_
      refine go_iconst (v := 0) hC dX1_takeKey_31 (by decide) ?_
      refine go_puti (ci := 1) hC 7 kwX1_takeKey_1 rfl tyX1 tyX1_ok nmX1 rfl (by decide) rfl lkX1_takeKey_37 (by first | decide | (show _ < 5; omega) | (show _ < 10; omega) | omega) rfl (by decide) (by decide) dX1_takeKey_32 ?_
      refine go_cast ?_ ?_ (hE _ _ dX1_takeKey_35)
      · first | rfl | (simp [*, uKey]; done) | (simp [*, uKey, gm_us, gm_un1, gm_un2]; done)
      · first | rfl | (simp [*, uKey]; done) | (simp [*, uKey, gm_us, gm_un1, gm_un2]; done)
end
section
/-! ===== the class: the fibre, calls that throw nothing (1) ===== -/
theorem kwX2_hasSerial_1 : ∀ w ∈ wsX10, w ∈ wsX2_hasSerial := by decide +kernel
theorem kwX2_hasSerial_2 : ∀ w ∈ wsX20, w ∈ wsX2_hasSerial := by decide +kernel
theorem lkX2_hasSerial_11 : Cond.fieldLink RX2 11 "SharedFibre" "units" "[LSharedFibre$Unit;" ∈ wsX2_hasSerial := by decide +kernel
theorem lkX2_hasSerial_58 : Cond.fieldLink RX2 58 "SharedFibre$Unit" "state" "I" ∈ wsX2_hasSerial := by decide +kernel
theorem lkX2_hasSerial_62 : Cond.fieldLink RX2 62 "SharedFibre$Unit" "serial" "I" ∈ wsX2_hasSerial := by decide +kernel
set_option maxHeartbeats 4000000 in
set_option maxRecDepth 100000 in
/-- hasSerial -/
theorem c_X2_hasSerial (M : gm_M) (a : Int32) : KC lyC yX2_hasSerial wsX2_hasSerial ({ frames := 0, cells := 0, slots := 0, locals := 0 }) (fun ad => [.ref (ad 2 0), .int a]) M (fun _ => some (.int (tF (∃ k, k < 5 ∧ (¬ M 1 1 k = 0 ∧ M 1 2 k = a))))) (M) := by
  refine KC.of_z (by decide) rfl rfl (fun _ => by simp) (fun _ => by simp [Value.category]) (tF_n _) ?_
  intro X hC hR hX hE
  simp only [List.map_cons, List.map_nil, List.cons_append, List.nil_append, List.length_cons, List.length_nil, List.replicate, Nat.reduceAdd, Nat.reduceSub]
  have lp11 : (fun j : Nat => (∀ k, k < j → ¬ (¬ M 1 1 k = 0 ∧ M 1 2 k = a)) → GO lyC X 0 0 11 [some (.ref (gm_ad X 2 0)), some (.int a), some (.ref (gm_ad X 3 0)), some (.int 5), some (.int (nI j)), none] [] M) 0 := by
    refine loopN (5) (fun j : Nat => (∀ k, k < j → ¬ (¬ M 1 1 k = 0 ∧ M 1 2 k = a)) → GO lyC X 0 0 11 [some (.ref (gm_ad X 2 0)), some (.int a), some (.ref (gm_ad X 3 0)), some (.int 5), some (.int (nI j)), none] [] M) ?_ (fun j hj ih => ?_)
    · try dsimp only
      intro hk
      refine go_iload hC dX2_hasSerial_11 rfl ?_
      refine go_iload_n hC dX2_hasSerial_13 rfl ?_
      refine go_icmp_ge hC 48 dX2_hasSerial_14 (by decide) (fun h14 => ?_) (fun h14 => ?_)
      ·
        refine go_iconst (v := 0) hC dX2_hasSerial_48 (by decide) ?_
        refine go_cast ?_ rfl (hE _ _ dX2_hasSerial_49)
        rw [tF_f (fun q => by obtain ⟨k, h1, h2⟩ := q; exact hk k h1 h2)]
      ·
        exact absurd (show nI 5 ≤ nI 5 from nI_le (Nat.le_refl _) (by decide)) h14
    · try dsimp only at ih ⊢
      intro hk
      refine go_iload hC dX2_hasSerial_11 rfl ?_
      refine go_iload_n hC dX2_hasSerial_13 rfl ?_
      refine go_icmp_ge hC 48 dX2_hasSerial_14 (by decide) (fun h14 => ?_) (fun h14 => ?_)
      ·
        exact absurd h14 (show ¬ nI 5 ≤ nI j from nI_ge hj (by decide))
      ·
        refine go_aload_n hC dX2_hasSerial_17 rfl ?_
        refine go_iload hC dX2_hasSerial_18 rfl ?_
        refine go_aald hC rfl (fun _ => rfl) (by first | decide | (show _ < 5; omega) | (show _ < 10; omega) | omega) (gm_in rfl (by omega) (by decide)) (gm_cu rfl (by omega)) dX2_hasSerial_20 ?_
        refine go_astore hC dX2_hasSerial_21 (Nat.le_of_ble_eq_true rfl) ?_
        simp only [gm_s0, gm_s1]
        refine go_aload hC dX2_hasSerial_23 rfl ?_
        refine go_geti (ci := 1) hC 1 kwX2_hasSerial_1 rfl rfl (by decide) rfl lkX2_hasSerial_58 (by first | decide | (show _ < 5; omega) | (show _ < 10; omega) | omega) dX2_hasSerial_25 ?_
        refine go_if_eq hC 42 dX2_hasSerial_28 (by decide) (fun h28 => ?_) (fun h28 => ?_)
        ·
          have hnk : ¬ (¬ M 1 1 j = 0 ∧ M 1 2 j = a) := fun q => q.1 h28
          refine go_iinc (v := 1) hC dX2_hasSerial_42 rfl (by decide) ?_
          simp only [gm_s0, gm_s1]
          refine go_goto hC 11 dX2_hasSerial_45 (by decide) ?_
          rw [nI_1]
          refine go_sub (ih (fun k h => ?_)) ?_
          · rcases Nat.lt_succ_iff_lt_or_eq.mp h with h | h
            · exact hk k h
            · subst h; exact hnk
          repeat (first | exact gm_le_nil | refine gm_le_c ?_ | refine gm_le_n ?_)
        ·
          refine go_aload hC dX2_hasSerial_31 rfl ?_
          refine go_geti (ci := 1) hC 2 kwX2_hasSerial_1 rfl rfl (by decide) rfl lkX2_hasSerial_62 (by first | decide | (show _ < 5; omega) | (show _ < 10; omega) | omega) dX2_hasSerial_33 ?_
          refine go_iload_n hC dX2_hasSerial_36 rfl ?_
          refine go_icmp_ne hC 42 dX2_hasSerial_37 (by decide) (fun h37 => ?_) (fun h37 => ?_)
          ·
            have hnk : ¬ (¬ M 1 1 j = 0 ∧ M 1 2 j = a) := fun q => h37 q.2
            refine go_iinc (v := 1) hC dX2_hasSerial_42 rfl (by decide) ?_
            simp only [gm_s0, gm_s1]
            refine go_goto hC 11 dX2_hasSerial_45 (by decide) ?_
            rw [nI_1]
            refine go_sub (ih (fun k h => ?_)) ?_
            · rcases Nat.lt_succ_iff_lt_or_eq.mp h with h | h
              · exact hk k h
              · subst h; exact hnk
            repeat (first | exact gm_le_nil | refine gm_le_c ?_ | refine gm_le_n ?_)
          ·
            refine go_iconst (v := 1) hC dX2_hasSerial_40 (by decide) ?_
            refine go_cast ?_ rfl (hE _ _ dX2_hasSerial_41)
            rw [tF_t ⟨j, hj, h28, h37⟩]
  try dsimp only at lp11
  refine go_aload_n hC dX2_hasSerial_0 rfl ?_
  refine go_getr (ci := 2) hC 0 kwX2_hasSerial_2 rfl rfl (by decide) rfl lkX2_hasSerial_11 (by first | decide | (show _ < 5; omega) | (show _ < 10; omega) | omega) dX2_hasSerial_1 ?_
  refine go_astore_n hC 2 dX2_hasSerial_4 rfl (Nat.le_of_ble_eq_true rfl) ?_
  simp only [gm_s0, gm_s1]
  refine go_aload_n hC dX2_hasSerial_5 rfl ?_
  refine go_alenr (v := 5) hC rfl (fun _ => rfl) (by first | decide | (show _ < 5; omega) | (show _ < 10; omega) | omega) (by decide) dX2_hasSerial_6 ?_
  refine go_istore_n hC 3 dX2_hasSerial_7 rfl (Nat.le_of_ble_eq_true rfl) ?_
  simp only [gm_s0, gm_s1]
  refine go_iconst (v := 0) hC dX2_hasSerial_8 (by decide) ?_
  refine go_istore hC dX2_hasSerial_9 (Nat.le_of_ble_eq_true rfl) ?_
  simp only [gm_s0, gm_s1]
  exact lp11 (fun k h => absurd h (Nat.not_lt_zero k))
def faD (M : gm_M) : Nat → Nat → Nat
  | 0, j => j
  | d + 1, j => if M 1 1 j = 0 then j else faD M d (j + 1)
theorem kwX2_firstAway_1 : ∀ w ∈ wsX10, w ∈ wsX2_firstAway := by decide +kernel
theorem kwX2_firstAway_2 : ∀ w ∈ wsX20, w ∈ wsX2_firstAway := by decide +kernel
theorem lkX2_firstAway_11 : Cond.fieldLink RX2 11 "SharedFibre" "units" "[LSharedFibre$Unit;" ∈ wsX2_firstAway := by decide +kernel
theorem lkX2_firstAway_58 : Cond.fieldLink RX2 58 "SharedFibre$Unit" "state" "I" ∈ wsX2_firstAway := by decide +kernel
set_option maxHeartbeats 4000000 in
set_option maxRecDepth 100000 in
/-- firstAway -/
theorem c_X2_firstAway (M : gm_M) : KC lyC yX2_firstAway wsX2_firstAway ({ frames := 0, cells := 0, slots := 0, locals := 0 }) (fun ad => [.ref (ad 2 0)]) M (fun _ => some (.int (nI (faD M 5 0)))) (M) := by
  refine KC.of_i (by decide) rfl rfl (fun _ => by simp) (fun _ => by simp [Value.category])  ?_
  intro X hC hR hX hE
  simp only [List.map_cons, List.map_nil, List.cons_append, List.nil_append, List.length_cons, List.length_nil, List.replicate, Nat.reduceAdd, Nat.reduceSub]
  have lp2 : (fun j : Nat => faD M (5 - j) j = faD M 5 0 → GO lyC X 0 0 2 [some (.ref (gm_ad X 2 0)), some (.int (nI j))] [] M) 0 := by
    refine loopN (5) (fun j : Nat => faD M (5 - j) j = faD M 5 0 → GO lyC X 0 0 2 [some (.ref (gm_ad X 2 0)), some (.int (nI j))] [] M) ?_ (fun j hj ih => ?_)
    · try dsimp only
      intro hfa
      refine go_iload_n hC dX2_firstAway_2 rfl ?_
      refine go_iconst (v := 5) hC dX2_firstAway_3 (by decide) ?_
      refine go_icmp_ge hC 25 dX2_firstAway_4 (by decide) (fun h4 => ?_) (fun h4 => ?_)
      ·
        refine go_iload_n hC dX2_firstAway_25 rfl ?_
        refine go_cast ?_ rfl (hE _ _ dX2_firstAway_26)
        rw [← hfa]
        first | rfl | (obtain ⟨d9, hd9⟩ : ∃ d9, 5 - j = d9 + 1 := ⟨4 - j, by omega⟩; rw [hd9]; simp [faD, *])
      ·
        exact absurd (show nI 5 ≤ nI 5 from nI_le (Nat.le_refl _) (by decide)) h4
    · try dsimp only at ih ⊢
      intro hfa
      refine go_iload_n hC dX2_firstAway_2 rfl ?_
      refine go_iconst (v := 5) hC dX2_firstAway_3 (by decide) ?_
      refine go_icmp_ge hC 25 dX2_firstAway_4 (by decide) (fun h4 => ?_) (fun h4 => ?_)
      ·
        exact absurd h4 (show ¬ nI 5 ≤ nI j from nI_ge hj (by decide))
      ·
        refine go_aload_n hC dX2_firstAway_7 rfl ?_
        refine go_getr (ci := 2) hC 0 kwX2_firstAway_2 rfl rfl (by decide) rfl lkX2_firstAway_11 (by first | decide | (show _ < 5; omega) | (show _ < 10; omega) | omega) dX2_firstAway_8 ?_
        refine go_iload_n hC dX2_firstAway_11 rfl ?_
        refine go_aald hC rfl (fun _ => rfl) (by first | decide | (show _ < 5; omega) | (show _ < 10; omega) | omega) (gm_in rfl (by omega) (by decide)) (gm_cu rfl (by omega)) dX2_firstAway_12 ?_
        refine go_geti (ci := 1) hC 1 kwX2_firstAway_1 rfl rfl (by decide) rfl lkX2_firstAway_58 (by first | decide | (show _ < 5; omega) | (show _ < 10; omega) | omega) dX2_firstAway_13 ?_
        refine go_if_eq hC 25 dX2_firstAway_16 (by decide) (fun h16 => ?_) (fun h16 => ?_)
        ·
          refine go_iload_n hC dX2_firstAway_25 rfl ?_
          refine go_cast ?_ rfl (hE _ _ dX2_firstAway_26)
          rw [← hfa]
          first | rfl | (obtain ⟨d9, hd9⟩ : ∃ d9, 5 - j = d9 + 1 := ⟨4 - j, by omega⟩; rw [hd9]; simp [faD, *])
        ·
          refine go_iinc (v := 1) hC dX2_firstAway_19 rfl (by decide) ?_
          simp only [gm_s0, gm_s1]
          refine go_goto hC 2 dX2_firstAway_22 (by decide) ?_
          rw [nI_1]
          refine ih ?_
          rw [← hfa]
          obtain ⟨d9, hd9⟩ : ∃ d9, 5 - j = d9 + 1 := ⟨4 - j, by omega⟩
          rw [hd9, show 5 - (j + 1) = d9 by omega]
          simp [faD, h16]
  try dsimp only at lp2
  refine go_iconst (v := 0) hC dX2_firstAway_0 (by decide) ?_
  refine go_istore_n hC 1 dX2_firstAway_1 rfl (Nat.le_of_ble_eq_true rfl) ?_
  simp only [gm_s0, gm_s1]
  exact lp2 rfl
theorem kwX2_contracted_0 : ∀ w ∈ wsX00, w ∈ wsX2_contracted := by decide +kernel
theorem kwX2_contracted_1 : ∀ w ∈ wsX10, w ∈ wsX2_contracted := by decide +kernel
theorem kwX2_contracted_2 : ∀ w ∈ wsX20, w ∈ wsX2_contracted := by decide +kernel
theorem lkX2_contracted_11 : Cond.fieldLink RX2 11 "SharedFibre" "units" "[LSharedFibre$Unit;" ∈ wsX2_contracted := by decide +kernel
theorem lkX2_contracted_84 : Cond.fieldLink RX2 84 "SharedFibre$Container" "fixed" "I" ∈ wsX2_contracted := by decide +kernel
theorem lkX2_contracted_89 : Cond.fieldLink RX2 89 "SharedFibre$Container" "assured" "I" ∈ wsX2_contracted := by decide +kernel
theorem lkX2_contracted_240 : Cond.fieldLink RX2 240 "SharedFibre$Unit" "containers" "[LSharedFibre$Container;" ∈ wsX2_contracted := by decide +kernel
set_option maxHeartbeats 4000000 in
set_option maxRecDepth 100000 in
/-- contracted -/
theorem c_X2_contracted (M : gm_M) : KC lyC yX2_contracted wsX2_contracted ({ frames := 0, cells := 0, slots := 0, locals := 0 }) (fun ad => [.ref (ad 2 0)]) M (fun _ => some (.int (bx_sum (fun k => M 0 4 k + M 0 5 k) 10))) (M) := by
  refine KC.of_i (by decide) rfl rfl (fun _ => by simp) (fun _ => by simp [Value.category])  ?_
  intro X hC hR hX hE
  simp only [List.map_cons, List.map_nil, List.cons_append, List.nil_append, List.length_cons, List.length_nil, List.replicate, Nat.reduceAdd, Nat.reduceSub]
  have lp13 : (fun j : Nat => GO lyC X 0 0 13 [some (.ref (gm_ad X 2 0)), some (.int (bx_sum (fun k => M 0 4 k + M 0 5 k) (2 * j))), some (.ref (gm_ad X 3 0)), some (.int 5), some (.int (nI j)), none, none, none, none, none] [] M) 0 := by
    refine loopN (5) (fun j : Nat => GO lyC X 0 0 13 [some (.ref (gm_ad X 2 0)), some (.int (bx_sum (fun k => M 0 4 k + M 0 5 k) (2 * j))), some (.ref (gm_ad X 3 0)), some (.int 5), some (.int (nI j)), none, none, none, none, none] [] M) ?_ (fun j hj ih => ?_)
    · try dsimp only
      refine go_iload hC dX2_contracted_13 rfl ?_
      refine go_iload_n hC dX2_contracted_15 rfl ?_
      refine go_icmp_ge hC 80 dX2_contracted_16 (by decide) (fun h16 => ?_) (fun h16 => ?_)
      ·
        refine go_iload_n hC dX2_contracted_80 rfl ?_
        refine go_cast ?_ ?_ (hE _ _ dX2_contracted_81)
        · first | rfl | (simp [*]; done) | (simp [*, gm_us, gm_un1, gm_un2]; done)
        · first | rfl | (simp [*]; done) | (simp [*, gm_us, gm_un1, gm_un2]; done)
      ·
        exact absurd (show nI 5 ≤ nI 5 from nI_le (Nat.le_refl _) (by decide)) h16
    · try dsimp only at ih ⊢
      refine go_iload hC dX2_contracted_13 rfl ?_
      refine go_iload_n hC dX2_contracted_15 rfl ?_
      refine go_icmp_ge hC 80 dX2_contracted_16 (by decide) (fun h16 => ?_) (fun h16 => ?_)
      ·
        exact absurd h16 (show ¬ nI 5 ≤ nI j from nI_ge hj (by decide))
      ·
        refine go_aload_n hC dX2_contracted_19 rfl ?_
        refine go_iload hC dX2_contracted_20 rfl ?_
        refine go_aald hC rfl (fun _ => rfl) (by first | decide | (show _ < 5; omega) | (show _ < 10; omega) | omega) (gm_in rfl (by omega) (by decide)) (gm_cu rfl (by omega)) dX2_contracted_22 ?_
        refine go_astore hC dX2_contracted_23 (Nat.le_of_ble_eq_true rfl) ?_
        simp only [gm_s0, gm_s1]
        refine go_aload hC dX2_contracted_25 rfl ?_
        refine go_getr (ci := 1) hC 0 kwX2_contracted_1 rfl rfl (by decide) rfl lkX2_contracted_240 (by first | decide | (show _ < 5; omega) | (show _ < 10; omega) | omega) dX2_contracted_27 ?_
        refine go_astore hC dX2_contracted_30 (Nat.le_of_ble_eq_true rfl) ?_
        simp only [gm_s0, gm_s1]
        refine go_aload hC dX2_contracted_32 rfl ?_
        refine go_alenr (v := 2) hC rfl (fun _ => rfl) (by first | decide | (show _ < 5; omega) | (show _ < 10; omega) | omega) (by decide) dX2_contracted_34 ?_
        refine go_istore hC dX2_contracted_35 (Nat.le_of_ble_eq_true rfl) ?_
        simp only [gm_s0, gm_s1]
        refine go_iconst (v := 0) hC dX2_contracted_37 (by decide) ?_
        refine go_istore hC dX2_contracted_38 (Nat.le_of_ble_eq_true rfl) ?_
        simp only [gm_s0, gm_s1]
        have lp40 : (fun i : Nat => GO lyC X 0 0 40 [some (.ref (gm_ad X 2 0)), some (.int (bx_sum (fun k => M 0 4 k + M 0 5 k) (2 * j + i))), some (.ref (gm_ad X 3 0)), some (.int 5), some (.int (nI j)), some (.ref (gm_ad X 1 j)), some (.ref (gm_ad X 9 j)), some (.int 2), some (.int (nI i)), none] [] M) 0 := by
          refine loopN (2) (fun i : Nat => GO lyC X 0 0 40 [some (.ref (gm_ad X 2 0)), some (.int (bx_sum (fun k => M 0 4 k + M 0 5 k) (2 * j + i))), some (.ref (gm_ad X 3 0)), some (.int 5), some (.int (nI j)), some (.ref (gm_ad X 1 j)), some (.ref (gm_ad X 9 j)), some (.int 2), some (.int (nI i)), none] [] M) ?_ (fun i hi ihi => ?_)
          · try dsimp only
            refine go_iload hC dX2_contracted_40 rfl ?_
            refine go_iload hC dX2_contracted_42 rfl ?_
            refine go_icmp_ge hC 74 dX2_contracted_44 (by decide) (fun h44 => ?_) (fun h44 => ?_)
            ·
              refine go_iinc (v := 1) hC dX2_contracted_74 rfl (by decide) ?_
              simp only [gm_s0, gm_s1]
              refine go_goto hC 13 dX2_contracted_77 (by decide) ?_
              rw [nI_1]
              refine go_sub ih ?_
              repeat (first | exact gm_le_nil | refine gm_le_c ?_ | refine gm_le_n ?_)
            ·
              exact absurd (show nI 2 ≤ nI 2 from nI_le (Nat.le_refl _) (by decide)) h44
          · try dsimp only at ihi ⊢
            refine go_iload hC dX2_contracted_40 rfl ?_
            refine go_iload hC dX2_contracted_42 rfl ?_
            refine go_icmp_ge hC 74 dX2_contracted_44 (by decide) (fun h44 => ?_) (fun h44 => ?_)
            ·
              exact absurd h44 (show ¬ nI 2 ≤ nI i from nI_ge hi (by decide))
            ·
              refine go_aload hC dX2_contracted_47 rfl ?_
              refine go_iload hC dX2_contracted_49 rfl ?_
              refine go_aald hC rfl (fun _ => rfl) (by first | decide | (show _ < 5; omega) | (show _ < 10; omega) | omega) (gm_in rfl (by omega) (by decide)) (gm_cl5 rfl (by omega)) dX2_contracted_51 ?_
              refine go_astore hC dX2_contracted_52 (Nat.le_of_ble_eq_true rfl) ?_
              simp only [gm_s0, gm_s1]
              refine go_iload_n hC dX2_contracted_54 rfl ?_
              refine go_aload hC dX2_contracted_55 rfl ?_
              refine go_geti (ci := 0) hC 4 kwX2_contracted_0 rfl rfl (by decide) rfl lkX2_contracted_84 (by first | decide | (show _ < 5; omega) | (show _ < 10; omega) | omega) dX2_contracted_57 ?_
              refine go_aload hC dX2_contracted_60 rfl ?_
              refine go_geti (ci := 0) hC 5 kwX2_contracted_0 rfl rfl (by decide) rfl lkX2_contracted_89 (by first | decide | (show _ < 5; omega) | (show _ < 10; omega) | omega) dX2_contracted_62 ?_
              refine go_iadd hC dX2_contracted_65 ?_
              refine go_iadd hC dX2_contracted_66 ?_
              refine go_istore_n hC 1 dX2_contracted_67 rfl (Nat.le_of_ble_eq_true rfl) ?_
              simp only [gm_s0, gm_s1]
              refine go_iinc (v := 1) hC dX2_contracted_68 rfl (by decide) ?_
              simp only [gm_s0, gm_s1]
              refine go_goto hC 40 dX2_contracted_71 (by decide) ?_
              rw [nI_1]
              refine go_sub ihi ?_
              repeat (first | exact gm_le_nil | refine gm_le_c ?_ | refine gm_le_n ?_)
        try dsimp only at lp40
        exact lp40
  try dsimp only at lp13
  refine go_iconst (v := 0) hC dX2_contracted_0 (by decide) ?_
  refine go_istore_n hC 1 dX2_contracted_1 rfl (Nat.le_of_ble_eq_true rfl) ?_
  simp only [gm_s0, gm_s1]
  refine go_aload_n hC dX2_contracted_2 rfl ?_
  refine go_getr (ci := 2) hC 0 kwX2_contracted_2 rfl rfl (by decide) rfl lkX2_contracted_11 (by first | decide | (show _ < 5; omega) | (show _ < 10; omega) | omega) dX2_contracted_3 ?_
  refine go_astore_n hC 2 dX2_contracted_6 rfl (Nat.le_of_ble_eq_true rfl) ?_
  simp only [gm_s0, gm_s1]
  refine go_aload_n hC dX2_contracted_7 rfl ?_
  refine go_alenr (v := 5) hC rfl (fun _ => rfl) (by first | decide | (show _ < 5; omega) | (show _ < 10; omega) | omega) (by decide) dX2_contracted_8 ?_
  refine go_istore_n hC 3 dX2_contracted_9 rfl (Nat.le_of_ble_eq_true rfl) ?_
  simp only [gm_s0, gm_s1]
  refine go_iconst (v := 0) hC dX2_contracted_10 (by decide) ?_
  refine go_istore hC dX2_contracted_11 (Nat.le_of_ble_eq_true rfl) ?_
  simp only [gm_s0, gm_s1]
  exact lp13
def dkF (M : gm_M) (o : Nat) : gm_M := if M 2 7 0 + 1 < 3 then gm_up M 2 7 0 (M 2 7 0 + 1) else if M 4 o 0 = 0 then gm_up (gm_up (gm_up M 2 7 0 (M 2 7 0 + 1)) 2 6 0 (nI o)) 2 7 0 0 else gm_up M 2 7 0 (M 2 7 0 + 1)
theorem kwX2_passDark_2 : ∀ w ∈ wsX20, w ∈ wsX2_passDark := by decide +kernel
theorem lkX2_passDark_15 : Cond.fieldLink RX2 15 "SharedFibre" "cut" "[Z" ∈ wsX2_passDark := by decide +kernel
theorem lkX2_passDark_146 : Cond.fieldLink RX2 146 "SharedFibre" "active" "I" ∈ wsX2_passDark := by decide +kernel
theorem lkX2_passDark_152 : Cond.fieldLink RX2 152 "SharedFibre" "darkInRow" "I" ∈ wsX2_passDark := by decide +kernel
set_option maxHeartbeats 4000000 in
set_option maxRecDepth 100000 in
/-- passDark -/
theorem c_X2_passDark (M : gm_M) (o : Nat) (ho : M 2 6 0 = nI o) (hoo : o ≤ 1) : KC lyC yX2_passDark wsX2_passDark ({ frames := 0, cells := 0, slots := 0, locals := 0 }) (fun ad => [.ref (ad 2 0)]) M (fun _ => none) (dkF M (1 - o)) := by
  refine KC.of_v (by decide) rfl rfl (fun _ => by simp) (fun _ => by simp [Value.category])  ?_
  intro X hC hR hX hE
  simp only [List.map_cons, List.map_nil, List.cons_append, List.nil_append, List.length_cons, List.length_nil, List.replicate, Nat.reduceAdd, Nat.reduceSub]
  refine go_aload_n hC dX2_passDark_0 rfl ?_
  refine go_dup hC dX2_passDark_1 rfl ?_
  refine go_geti (ci := 2) hC 7 kwX2_passDark_2 rfl rfl (by decide) rfl lkX2_passDark_152 (by first | decide | (show _ < 5; omega) | (show _ < 10; omega) | omega) dX2_passDark_2 ?_
  refine go_iconst (v := 1) hC dX2_passDark_5 (by decide) ?_
  refine go_iadd hC dX2_passDark_6 ?_
  refine go_puti (ci := 2) hC 7 kwX2_passDark_2 rfl tyX2 tyX2_ok nmX2 rfl (by decide) rfl lkX2_passDark_152 (by first | decide | (show _ < 5; omega) | (show _ < 10; omega) | omega) rfl rfl rfl dX2_passDark_7 ?_
  refine go_iconst (v := 1) hC dX2_passDark_10 (by decide) ?_
  refine go_aload_n hC dX2_passDark_11 rfl ?_
  refine go_geti (ci := 2) hC 6 kwX2_passDark_2 rfl rfl (by decide) rfl lkX2_passDark_146 (by first | decide | (show _ < 5; omega) | (show _ < 10; omega) | omega) dX2_passDark_12 ?_
  refine go_isub hC dX2_passDark_15 ?_
  refine go_istore_n hC 1 dX2_passDark_16 rfl (Nat.le_of_ble_eq_true rfl) ?_
  simp only [gm_s0, gm_s1]
  rw [show (1 : Int32) - gm_up M 2 7 0 (M 2 7 0 + 1) 2 6 0 = nI (1 - o) by rw [gm_un2 (by decide), ho]; exact pk_sub (a := 1) hoo]
  refine go_aload_n hC dX2_passDark_17 rfl ?_
  refine go_geti (ci := 2) hC 7 kwX2_passDark_2 rfl rfl (by decide) rfl lkX2_passDark_152 (by first | decide | (show _ < 5; omega) | (show _ < 10; omega) | omega) dX2_passDark_18 ?_
  refine go_iconst (v := 3) hC dX2_passDark_21 (by decide) ?_
  refine go_icmp_lt hC 44 dX2_passDark_22 (by decide) (fun h22 => ?_) (fun h22 => ?_)
  ·
    rw [gm_us] at h22
    refine go_cast ?_ ?_ (hE _ _ dX2_passDark_44)
    · first | rfl | (simp [*, dkF]; done) | (simp [*, dkF, gm_us, gm_un1, gm_un2]; done)
    · first | rfl | (simp [*, dkF]; done) | (simp [*, dkF, gm_us, gm_un1, gm_un2]; done)
  ·
    rw [gm_us] at h22
    refine go_aload_n hC dX2_passDark_25 rfl ?_
    refine go_getr (ci := 2) hC 1 kwX2_passDark_2 rfl rfl (by decide) rfl lkX2_passDark_15 (by first | decide | (show _ < 5; omega) | (show _ < 10; omega) | omega) dX2_passDark_26 ?_
    refine go_iload_n hC dX2_passDark_29 rfl ?_
    refine go_zald hC rfl (by first | decide | (show _ < 5; omega) | (show _ < 10; omega) | omega) (gm_in rfl (by omega) (by decide)) (gm_cl rfl (by omega)) dX2_passDark_30 ?_
    refine go_if_ne hC 44 dX2_passDark_31 (by decide) (fun h31 => ?_) (fun h31 => ?_)
    ·
      rw [gm_un1 (by decide)] at h31
      refine go_cast ?_ ?_ (hE _ _ dX2_passDark_44)
      · first | rfl | (simp [*, dkF]; done) | (simp [*, dkF, gm_us, gm_un1, gm_un2]; done)
      · first | rfl | (simp [*, dkF]; done) | (simp [*, dkF, gm_us, gm_un1, gm_un2]; done)
    ·
      rw [gm_un1 (by decide)] at h31
      refine go_aload_n hC dX2_passDark_34 rfl ?_
      refine go_iload_n hC dX2_passDark_35 rfl ?_
      refine go_puti (ci := 2) hC 6 kwX2_passDark_2 rfl tyX2 tyX2_ok nmX2 rfl (by decide) rfl lkX2_passDark_146 (by first | decide | (show _ < 5; omega) | (show _ < 10; omega) | omega) rfl rfl rfl dX2_passDark_36 ?_
      refine go_aload_n hC dX2_passDark_39 rfl ?_
      refine go_iconst (v := 0) hC dX2_passDark_40 (by decide) ?_
      refine go_puti (ci := 2) hC 7 kwX2_passDark_2 rfl tyX2 tyX2_ok nmX2 rfl (by decide) rfl lkX2_passDark_152 (by first | decide | (show _ < 5; omega) | (show _ < 10; omega) | omega) rfl rfl rfl dX2_passDark_41 ?_
      refine go_cast ?_ ?_ (hE _ _ dX2_passDark_44)
      · first | rfl | (simp [*, dkF]; done) | (simp [*, dkF, gm_us, gm_un1, gm_un2]; done)
      · first | rfl | (simp [*, dkF]; done) | (simp [*, dkF, gm_us, gm_un1, gm_un2]; done)
end
section
/-! ===== the class: the fibre (2) ===== -/
theorem winF_in (a b : Int32) : ∃ k, k < 8 ∧ winF a b = nI k := by
  unfold winF
  generalize mixF a b = x
  have h := pk_ushr x 1 1 (by decide)
  have hlt : x.toBitVec.toNat < 2 ^ 32 := x.toBitVec.isLt
  generalize hy : (x.toUInt32 >>> ((1 : Int32).toUInt32 &&& Int32.toUInt32 31)).toInt32 = y at h ⊢
  have hn : y = nI (x.toBitVec.toNat / 2) := by
    apply Int32.toBitVec_inj.mp
    apply BitVec.eq_of_toNat_eq
    rw [h, pk_tn (by omega)]
  refine ⟨x.toBitVec.toNat / 2 % 8, by omega, ?_⟩
  rw [hn]
  exact pk_rem (d := 8) (by omega) (by decide) (by decide)
def wN (M : gm_M) (u : Nat) : Nat := (winF (M 1 2 u) (M 1 4 u)).toNatClampNeg
theorem wN_lt (M : gm_M) (u : Nat) : wN M u < 8 := by
  obtain ⟨k, hk, e⟩ := winF_in (M 1 2 u) (M 1 4 u)
  unfold wN
  rw [e, nI_clamp (by omega)]
  exact hk
theorem wN_eq (M : gm_M) (u : Nat) : winF (M 1 2 u) (M 1 4 u) = nI (wN M u) := by
  obtain ⟨k, hk, e⟩ := winF_in (M 1 2 u) (M 1 4 u)
  unfold wN
  rw [e, nI_clamp (by omega)]
def pq1 : Nat → gm_M → gm_M := fun k M => gm_up M 6 k 0 0
def pq2 : Nat → gm_M → gm_M := fun u M => if M 1 1 u = 1 then gm_up M 6 (wN M u) 0 (M 6 (wN M u) 0 + 1) else M
def pq3 : Nat → gm_M → gm_M := fun u M => if M 1 1 u = 1 then (if M 6 (wN M u) 0 = 1 then gm_up M 1 1 u 2 else gm_up M 1 4 u (M 1 4 u + 1)) else M
def pqF (M : gm_M) : gm_M := iter pq3 5 (iter pq2 5 (iter pq1 8 M))
theorem kwX2_passQuiet_1 : ∀ w ∈ wsX10, w ∈ wsX2_passQuiet := by decide +kernel
theorem kwX2_passQuiet_2 : ∀ w ∈ wsX20, w ∈ wsX2_passQuiet := by decide +kernel
theorem lkX2_passQuiet_11 : Cond.fieldLink RX2 11 "SharedFibre" "units" "[LSharedFibre$Unit;" ∈ wsX2_passQuiet := by decide +kernel
theorem lkX2_passQuiet_23 : Cond.fieldLink RX2 23 "SharedFibre" "answersIn" "[I" ∈ wsX2_passQuiet := by decide +kernel
theorem lkX2_passQuiet_58 : Cond.fieldLink RX2 58 "SharedFibre$Unit" "state" "I" ∈ wsX2_passQuiet := by decide +kernel
theorem lkX2_passQuiet_197 : Cond.fieldLink RX2 197 "SharedFibre$Unit" "answered" "I" ∈ wsX2_passQuiet := by decide +kernel
set_option maxHeartbeats 4000000 in
set_option maxRecDepth 100000 in
/-- passQuiet -/
theorem c_X2_passQuiet (M : gm_M) : KC lyC yX2_passQuiet wsX2_passQuiet ({ frames := 2, cells := 0, slots := 0, locals := 42 }) (fun ad => [.ref (ad 2 0)]) M (fun _ => none) (pqF M) := by
  refine KC.of_v (by decide) rfl rfl (fun _ => by simp) (fun _ => by simp [Value.category])  ?_
  intro X hC hR hX hE
  simp only [List.map_cons, List.map_nil, List.cons_append, List.nil_append, List.length_cons, List.length_nil, List.replicate, Nat.reduceAdd, Nat.reduceSub]
  have lp2 : (fun j : Nat => GO lyC X 0 0 2 [some (.ref (gm_ad X 2 0)), some (.int (nI j)), none, none, none] [] (iter pq1 j M)) 0 := by
    refine loopN (8) (fun j : Nat => GO lyC X 0 0 2 [some (.ref (gm_ad X 2 0)), some (.int (nI j)), none, none, none] [] (iter pq1 j M)) ?_ (fun j hj ih => ?_)
    · try dsimp only
      refine go_iload_n hC dX2_passQuiet_2 rfl ?_
      refine go_bipush (v := 8) hC dX2_passQuiet_3 (by decide) ?_
      refine go_icmp_ge hC 21 dX2_passQuiet_5 (by decide) (fun h5 => ?_) (fun h5 => ?_)
      ·
        refine go_aload_n hC dX2_passQuiet_21 rfl ?_
        refine go_getr (ci := 2) hC 0 kwX2_passQuiet_2 rfl rfl (by decide) rfl lkX2_passQuiet_11 (by first | decide | (show _ < 5; omega) | (show _ < 10; omega) | omega) dX2_passQuiet_22 ?_
        refine go_astore_n hC 1 dX2_passQuiet_25 rfl (Nat.le_of_ble_eq_true rfl) ?_
        simp only [gm_s0, gm_s1]
        refine go_aload_n hC dX2_passQuiet_26 rfl ?_
        refine go_alenr (v := 5) hC rfl (fun _ => rfl) (by first | decide | (show _ < 5; omega) | (show _ < 10; omega) | omega) (by decide) dX2_passQuiet_27 ?_
        refine go_istore_n hC 2 dX2_passQuiet_28 rfl (Nat.le_of_ble_eq_true rfl) ?_
        simp only [gm_s0, gm_s1]
        refine go_iconst (v := 0) hC dX2_passQuiet_29 (by decide) ?_
        refine go_istore_n hC 3 dX2_passQuiet_30 rfl (Nat.le_of_ble_eq_true rfl) ?_
        simp only [gm_s0, gm_s1]
        have lp31 : (fun j : Nat => GO lyC X 0 0 31 [some (.ref (gm_ad X 2 0)), some (.ref (gm_ad X 3 0)), some (.int 5), some (.int (nI j)), none] [] (iter pq2 j (iter pq1 8 M))) 0 := by
          refine loopN (5) (fun j : Nat => GO lyC X 0 0 31 [some (.ref (gm_ad X 2 0)), some (.ref (gm_ad X 3 0)), some (.int 5), some (.int (nI j)), none] [] (iter pq2 j (iter pq1 8 M))) ?_ (fun j hj ih => ?_)
          · try dsimp only
            refine go_iload_n hC dX2_passQuiet_31 rfl ?_
            refine go_iload_n hC dX2_passQuiet_32 rfl ?_
            refine go_icmp_ge hC 70 dX2_passQuiet_33 (by decide) (fun h33 => ?_) (fun h33 => ?_)
            ·
              refine go_aload_n hC dX2_passQuiet_70 rfl ?_
              refine go_getr (ci := 2) hC 0 kwX2_passQuiet_2 rfl rfl (by decide) rfl lkX2_passQuiet_11 (by first | decide | (show _ < 5; omega) | (show _ < 10; omega) | omega) dX2_passQuiet_71 ?_
              refine go_astore_n hC 1 dX2_passQuiet_74 rfl (Nat.le_of_ble_eq_true rfl) ?_
              simp only [gm_s0, gm_s1]
              refine go_aload_n hC dX2_passQuiet_75 rfl ?_
              refine go_alenr (v := 5) hC rfl (fun _ => rfl) (by first | decide | (show _ < 5; omega) | (show _ < 10; omega) | omega) (by decide) dX2_passQuiet_76 ?_
              refine go_istore_n hC 2 dX2_passQuiet_77 rfl (Nat.le_of_ble_eq_true rfl) ?_
              simp only [gm_s0, gm_s1]
              refine go_iconst (v := 0) hC dX2_passQuiet_78 (by decide) ?_
              refine go_istore_n hC 3 dX2_passQuiet_79 rfl (Nat.le_of_ble_eq_true rfl) ?_
              simp only [gm_s0, gm_s1]
              have lp80 : (fun j : Nat => GO lyC X 0 0 80 [some (.ref (gm_ad X 2 0)), some (.ref (gm_ad X 3 0)), some (.int 5), some (.int (nI j)), none] [] (iter pq3 j (iter pq2 5 (iter pq1 8 M)))) 0 := by
                refine loopN (5) (fun j : Nat => GO lyC X 0 0 80 [some (.ref (gm_ad X 2 0)), some (.ref (gm_ad X 3 0)), some (.int 5), some (.int (nI j)), none] [] (iter pq3 j (iter pq2 5 (iter pq1 8 M)))) ?_ (fun j hj ih => ?_)
                · try dsimp only
                  refine go_iload_n hC dX2_passQuiet_80 rfl ?_
                  refine go_iload_n hC dX2_passQuiet_81 rfl ?_
                  refine go_icmp_ge hC 139 dX2_passQuiet_82 (by decide) (fun h82 => ?_) (fun h82 => ?_)
                  ·
                    refine go_cast ?_ ?_ (hE _ _ dX2_passQuiet_139)
                    · first | rfl | (simp [*]; done) | (simp [*, gm_us, gm_un1, gm_un2]; done)
                    · first | rfl | (simp [*]; done) | (simp [*, gm_us, gm_un1, gm_un2]; done)
                  ·
                    exact absurd (show nI 5 ≤ nI 5 from nI_le (Nat.le_refl _) (by decide)) h82
                · try dsimp only at ih ⊢
                  refine go_iload_n hC dX2_passQuiet_80 rfl ?_
                  refine go_iload_n hC dX2_passQuiet_81 rfl ?_
                  refine go_icmp_ge hC 139 dX2_passQuiet_82 (by decide) (fun h82 => ?_) (fun h82 => ?_)
                  ·
                    exact absurd h82 (show ¬ nI 5 ≤ nI j from nI_ge hj (by decide))
                  ·
                    refine go_aload_n hC dX2_passQuiet_85 rfl ?_
                    refine go_iload_n hC dX2_passQuiet_86 rfl ?_
                    refine go_aald hC rfl (fun _ => rfl) (by first | decide | (show _ < 5; omega) | (show _ < 10; omega) | omega) (gm_in rfl (by omega) (by decide)) (gm_cu rfl (by omega)) dX2_passQuiet_87 ?_
                    refine go_astore hC dX2_passQuiet_88 (Nat.le_of_ble_eq_true rfl) ?_
                    simp only [gm_s0, gm_s1]
                    refine go_aload hC dX2_passQuiet_90 rfl ?_
                    refine go_geti (ci := 1) hC 1 kwX2_passQuiet_1 rfl rfl (by decide) rfl lkX2_passQuiet_58 (by first | decide | (show _ < 5; omega) | (show _ < 10; omega) | omega) dX2_passQuiet_92 ?_
                    refine go_iconst (v := 1) hC dX2_passQuiet_95 (by decide) ?_
                    refine go_icmp_ne hC 133 dX2_passQuiet_96 (by decide) (fun h96 => ?_) (fun h96 => ?_)
                    ·
                      refine go_iinc (v := 1) hC dX2_passQuiet_133 rfl (by decide) ?_
                      simp only [gm_s0, gm_s1]
                      refine go_goto hC 80 dX2_passQuiet_136 (by decide) ?_
                      rw [nI_1]
                      refine go_sub (go_mem ?_ ih) ?_
                      · rw [iter_s pq3 j]
                        first | (simp only [pq3, if_pos h96, if_pos h110]; done) | (simp only [pq3, if_pos h96, if_neg h110]; done) | (simp only [pq3, if_neg h96]; done)
                      repeat (first | exact gm_le_nil | refine gm_le_c ?_ | refine gm_le_n ?_)
                    ·
                      refine go_aload_n hC dX2_passQuiet_99 rfl ?_
                      refine go_getr (ci := 2) hC 3 kwX2_passQuiet_2 rfl rfl (by decide) rfl lkX2_passQuiet_23 (by first | decide | (show _ < 5; omega) | (show _ < 10; omega) | omega) dX2_passQuiet_100 ?_
                      refine go_aload hC dX2_passQuiet_103 rfl ?_
                      refine go_callV (n := 0) (k0 := 1) (n0 := j) hC hX (c_X1_answerWindow _ _ (by omega)) gX2_passQuiet_X1_answerWindow rfl (by decide +kernel) ⟨rfl, rfl⟩ (by rw [hR]; exact ⟨by decide, by decide⟩) (by rw [hR]; exact ⟨by decide, by decide⟩) rfl rfl rfl (by first | decide | (show _ < 5; omega) | (show _ < 10; omega) | omega) rfl rfl rfl (Nat.le_of_ble_eq_true rfl) dX2_passQuiet_105 ?_
                      simp only [gm_r0, gm_r1]
                      have hw8 := wN_lt (iter pq3 j (iter pq2 5 (iter pq1 8 M))) j
                      have hwe := wN_eq (iter pq3 j (iter pq2 5 (iter pq1 8 M))) j
                      refine go_iald hC rfl (by first | decide | (show _ < 5; omega) | (show _ < 10; omega) | omega) (gm_in hwe (by omega) (by decide)) (gm_cl hwe (by omega)) dX2_passQuiet_108 ?_
                      refine go_iconst (v := 1) hC dX2_passQuiet_109 (by decide) ?_
                      refine go_icmp_ne hC 122 dX2_passQuiet_110 (by decide) (fun h110 => ?_) (fun h110 => ?_)
                      ·
                        refine go_aload hC dX2_passQuiet_122 rfl ?_
                        refine go_dup hC dX2_passQuiet_124 rfl ?_
                        refine go_geti (ci := 1) hC 4 kwX2_passQuiet_1 rfl rfl (by decide) rfl lkX2_passQuiet_197 (by first | decide | (show _ < 5; omega) | (show _ < 10; omega) | omega) dX2_passQuiet_125 ?_
                        refine go_iconst (v := 1) hC dX2_passQuiet_128 (by decide) ?_
                        refine go_iadd hC dX2_passQuiet_129 ?_
                        refine go_puti (ci := 1) hC 4 kwX2_passQuiet_1 rfl tyX1 tyX1_ok nmX1 rfl (by decide) rfl lkX2_passQuiet_197 (by first | decide | (show _ < 5; omega) | (show _ < 10; omega) | omega) rfl rfl rfl dX2_passQuiet_130 ?_
                        refine go_iinc (v := 1) hC dX2_passQuiet_133 rfl (by decide) ?_
                        simp only [gm_s0, gm_s1]
                        refine go_goto hC 80 dX2_passQuiet_136 (by decide) ?_
                        rw [nI_1]
                        refine go_sub (go_mem ?_ ih) ?_
                        · rw [iter_s pq3 j]
                          first | (simp only [pq3, if_pos h96, if_pos h110]; done) | (simp only [pq3, if_pos h96, if_neg h110]; done) | (simp only [pq3, if_neg h96]; done)
                        repeat (first | exact gm_le_nil | refine gm_le_c ?_ | refine gm_le_n ?_)
                      ·
                        refine go_aload hC dX2_passQuiet_113 rfl ?_
                        refine go_iconst (v := 2) hC dX2_passQuiet_115 (by decide) ?_
                        refine go_puti (ci := 1) hC 1 kwX2_passQuiet_1 rfl tyX1 tyX1_ok nmX1 rfl (by decide) rfl lkX2_passQuiet_58 (by first | decide | (show _ < 5; omega) | (show _ < 10; omega) | omega) rfl rfl rfl dX2_passQuiet_116 ?_
                        refine go_goto hC 133 dX2_passQuiet_119 (by decide) ?_
                        refine go_iinc (v := 1) hC dX2_passQuiet_133 rfl (by decide) ?_
                        simp only [gm_s0, gm_s1]
                        refine go_goto hC 80 dX2_passQuiet_136 (by decide) ?_
                        rw [nI_1]
                        refine go_sub (go_mem ?_ ih) ?_
                        · rw [iter_s pq3 j]
                          first | (simp only [pq3, if_pos h96, if_pos h110]; done) | (simp only [pq3, if_pos h96, if_neg h110]; done) | (simp only [pq3, if_neg h96]; done)
                        repeat (first | exact gm_le_nil | refine gm_le_c ?_ | refine gm_le_n ?_)
              try dsimp only at lp80
              refine go_sub lp80 ?_
              repeat (first | exact gm_le_nil | refine gm_le_c ?_ | refine gm_le_n ?_)
            ·
              exact absurd (show nI 5 ≤ nI 5 from nI_le (Nat.le_refl _) (by decide)) h33
          · try dsimp only at ih ⊢
            refine go_iload_n hC dX2_passQuiet_31 rfl ?_
            refine go_iload_n hC dX2_passQuiet_32 rfl ?_
            refine go_icmp_ge hC 70 dX2_passQuiet_33 (by decide) (fun h33 => ?_) (fun h33 => ?_)
            ·
              exact absurd h33 (show ¬ nI 5 ≤ nI j from nI_ge hj (by decide))
            ·
              refine go_aload_n hC dX2_passQuiet_36 rfl ?_
              refine go_iload_n hC dX2_passQuiet_37 rfl ?_
              refine go_aald hC rfl (fun _ => rfl) (by first | decide | (show _ < 5; omega) | (show _ < 10; omega) | omega) (gm_in rfl (by omega) (by decide)) (gm_cu rfl (by omega)) dX2_passQuiet_38 ?_
              refine go_astore hC dX2_passQuiet_39 (Nat.le_of_ble_eq_true rfl) ?_
              simp only [gm_s0, gm_s1]
              refine go_aload hC dX2_passQuiet_41 rfl ?_
              refine go_geti (ci := 1) hC 1 kwX2_passQuiet_1 rfl rfl (by decide) rfl lkX2_passQuiet_58 (by first | decide | (show _ < 5; omega) | (show _ < 10; omega) | omega) dX2_passQuiet_43 ?_
              refine go_iconst (v := 1) hC dX2_passQuiet_46 (by decide) ?_
              refine go_icmp_ne hC 64 dX2_passQuiet_47 (by decide) (fun h47 => ?_) (fun h47 => ?_)
              ·
                refine go_iinc (v := 1) hC dX2_passQuiet_64 rfl (by decide) ?_
                simp only [gm_s0, gm_s1]
                refine go_goto hC 31 dX2_passQuiet_67 (by decide) ?_
                rw [nI_1]
                refine go_sub (go_mem ?_ ih) ?_
                · rw [iter_s pq2 j]
                  first | (simp only [pq2, if_pos h47]; done) | (simp only [pq2, if_neg h47]; done)
                repeat (first | exact gm_le_nil | refine gm_le_c ?_ | refine gm_le_n ?_)
              ·
                refine go_aload_n hC dX2_passQuiet_50 rfl ?_
                refine go_getr (ci := 2) hC 3 kwX2_passQuiet_2 rfl rfl (by decide) rfl lkX2_passQuiet_23 (by first | decide | (show _ < 5; omega) | (show _ < 10; omega) | omega) dX2_passQuiet_51 ?_
                refine go_aload hC dX2_passQuiet_54 rfl ?_
                refine go_callV (n := 0) (k0 := 1) (n0 := j) hC hX (c_X1_answerWindow _ _ (by omega)) gX2_passQuiet_X1_answerWindow rfl (by decide +kernel) ⟨rfl, rfl⟩ (by rw [hR]; exact ⟨by decide, by decide⟩) (by rw [hR]; exact ⟨by decide, by decide⟩) rfl rfl rfl (by first | decide | (show _ < 5; omega) | (show _ < 10; omega) | omega) rfl rfl rfl (Nat.le_of_ble_eq_true rfl) dX2_passQuiet_56 ?_
                simp only [gm_r0, gm_r1]
                have hw8 := wN_lt (iter pq2 j (iter pq1 8 M)) j
                have hwe := wN_eq (iter pq2 j (iter pq1 8 M)) j
                refine go_dup2 hC dX2_passQuiet_59 rfl rfl ?_
                refine go_iald hC rfl (by first | decide | (show _ < 5; omega) | (show _ < 10; omega) | omega) (gm_in hwe (by omega) (by decide)) (gm_cl hwe (by omega)) dX2_passQuiet_60 ?_
                refine go_iconst (v := 1) hC dX2_passQuiet_61 (by decide) ?_
                refine go_iadd hC dX2_passQuiet_62 ?_
                refine go_iast hC rfl (by first | decide | (show _ < 5; omega) | (show _ < 10; omega) | omega) (gm_in hwe (by omega) (by decide)) (gm_cl hwe (by omega)) dX2_passQuiet_63 ?_
                refine go_iinc (v := 1) hC dX2_passQuiet_64 rfl (by decide) ?_
                simp only [gm_s0, gm_s1]
                refine go_goto hC 31 dX2_passQuiet_67 (by decide) ?_
                rw [nI_1]
                refine go_sub (go_mem ?_ ih) ?_
                · rw [iter_s pq2 j]
                  first | (simp only [pq2, if_pos h47]; done) | (simp only [pq2, if_neg h47]; done)
                repeat (first | exact gm_le_nil | refine gm_le_c ?_ | refine gm_le_n ?_)
        try dsimp only at lp31
        refine go_sub lp31 ?_
        repeat (first | exact gm_le_nil | refine gm_le_c ?_ | refine gm_le_n ?_)
      ·
        exact absurd (show nI 8 ≤ nI 8 from nI_le (Nat.le_refl _) (by decide)) h5
    · try dsimp only at ih ⊢
      refine go_iload_n hC dX2_passQuiet_2 rfl ?_
      refine go_bipush (v := 8) hC dX2_passQuiet_3 (by decide) ?_
      refine go_icmp_ge hC 21 dX2_passQuiet_5 (by decide) (fun h5 => ?_) (fun h5 => ?_)
      ·
        exact absurd h5 (show ¬ nI 8 ≤ nI j from nI_ge hj (by decide))
      ·
        refine go_aload_n hC dX2_passQuiet_8 rfl ?_
        refine go_getr (ci := 2) hC 3 kwX2_passQuiet_2 rfl rfl (by decide) rfl lkX2_passQuiet_23 (by first | decide | (show _ < 5; omega) | (show _ < 10; omega) | omega) dX2_passQuiet_9 ?_
        refine go_iload_n hC dX2_passQuiet_12 rfl ?_
        refine go_iconst (v := 0) hC dX2_passQuiet_13 (by decide) ?_
        refine go_iast hC rfl (by first | decide | (show _ < 5; omega) | (show _ < 10; omega) | omega) (gm_in rfl (by omega) (by decide)) (gm_cl rfl (by omega)) dX2_passQuiet_14 ?_
        refine go_iinc (v := 1) hC dX2_passQuiet_15 rfl (by decide) ?_
        simp only [gm_s0, gm_s1]
        refine go_goto hC 2 dX2_passQuiet_18 (by decide) ?_
        rw [nI_1]
        exact ih
  try dsimp only at lp2
  refine go_iconst (v := 0) hC dX2_passQuiet_0 (by decide) ?_
  refine go_istore_n hC 1 dX2_passQuiet_1 rfl (Nat.le_of_ble_eq_true rfl) ?_
  simp only [gm_s0, gm_s1]
  exact lp2
end
section
/-! ===== the class: the fibre (3) ===== -/
def absF (x : Int32) : Int32 := if 0 ≤ x then x else 0 - x
def we1 (u : Nat) (M : gm_M) : gm_M := if absF (M 1 5 u) ≤ 8 then M else gm_up (gm_up (gm_up M 1 1 u 1) 1 4 u 0) 2 15 0 (M 2 15 0 + 1)
def we2 : Nat → gm_M → gm_M := fun u M => if absF (M 1 5 u) ≤ 4 then we1 u M else gm_up (we1 u M) 1 5 u 0
theorem kwX2_watchErrors_1 : ∀ w ∈ wsX10, w ∈ wsX2_watchErrors := by decide +kernel
theorem kwX2_watchErrors_2 : ∀ w ∈ wsX20, w ∈ wsX2_watchErrors := by decide +kernel
theorem lkX2_watchErrors_11 : Cond.fieldLink RX2 11 "SharedFibre" "units" "[LSharedFibre$Unit;" ∈ wsX2_watchErrors := by decide +kernel
theorem lkX2_watchErrors_58 : Cond.fieldLink RX2 58 "SharedFibre$Unit" "state" "I" ∈ wsX2_watchErrors := by decide +kernel
theorem lkX2_watchErrors_101 : Cond.fieldLink RX2 101 "SharedFibre$Unit" "error" "I" ∈ wsX2_watchErrors := by decide +kernel
theorem lkX2_watchErrors_197 : Cond.fieldLink RX2 197 "SharedFibre$Unit" "answered" "I" ∈ wsX2_watchErrors := by decide +kernel
theorem lkX2_watchErrors_229 : Cond.fieldLink RX2 229 "SharedFibre" "strayed" "I" ∈ wsX2_watchErrors := by decide +kernel
theorem lmX2_watchErrors_abs_c : Cond.code Lib.Math.abs.name Lib.Math.abs.code 1 (some .int) ∈ wsX2_watchErrors := by decide +kernel
theorem lmX2_watchErrors_abs_i : Cond.initialized "java/lang/Math" ∈ wsX2_watchErrors := by decide +kernel
theorem lmX2_watchErrors_abs_l : Cond.methodLink RX2 247 Lib.Math.abs.name ∈ wsX2_watchErrors := by decide +kernel
theorem lmX2_watchErrors_abs_s : Cond.static Lib.Math.abs.name ∈ wsX2_watchErrors := by decide +kernel
set_option maxHeartbeats 4000000 in
set_option maxRecDepth 100000 in
/-- watchErrors -/
theorem c_X2_watchErrors (M : gm_M) : KC lyC yX2_watchErrors wsX2_watchErrors ({ frames := 1, cells := 0, slots := 0, locals := 21 }) (fun ad => [.ref (ad 2 0)]) M (fun _ => none) (iter we2 5 M) := by
  refine KC.of_v (by decide) rfl rfl (fun _ => by simp) (fun _ => by simp [Value.category])  ?_
  intro X hC hR hX hE
  simp only [List.map_cons, List.map_nil, List.cons_append, List.nil_append, List.length_cons, List.length_nil, List.replicate, Nat.reduceAdd, Nat.reduceSub]
  have lp10 : (fun j : Nat => GO lyC X 0 0 10 [some (.ref (gm_ad X 2 0)), some (.ref (gm_ad X 3 0)), some (.int 5), some (.int (nI j)), none, none] [] (iter we2 j M)) 0 := by
    refine loopN (5) (fun j : Nat => GO lyC X 0 0 10 [some (.ref (gm_ad X 2 0)), some (.ref (gm_ad X 3 0)), some (.int 5), some (.int (nI j)), none, none] [] (iter we2 j M)) ?_ (fun j hj ih => ?_)
    · try dsimp only
      refine go_iload_n hC dX2_watchErrors_10 rfl ?_
      refine go_iload_n hC dX2_watchErrors_11 rfl ?_
      refine go_icmp_ge hC 77 dX2_watchErrors_12 (by decide) (fun h12 => ?_) (fun h12 => ?_)
      ·
        refine go_cast ?_ ?_ (hE _ _ dX2_watchErrors_77)
        · first | rfl | (simp [*]; done) | (simp [*, gm_us, gm_un1, gm_un2]; done)
        · first | rfl | (simp [*]; done) | (simp [*, gm_us, gm_un1, gm_un2]; done)
      ·
        exact absurd (show nI 5 ≤ nI 5 from nI_le (Nat.le_refl _) (by decide)) h12
    · try dsimp only at ih ⊢
      refine go_iload_n hC dX2_watchErrors_10 rfl ?_
      refine go_iload_n hC dX2_watchErrors_11 rfl ?_
      refine go_icmp_ge hC 77 dX2_watchErrors_12 (by decide) (fun h12 => ?_) (fun h12 => ?_)
      ·
        exact absurd h12 (show ¬ nI 5 ≤ nI j from nI_ge hj (by decide))
      ·
        refine go_aload_n hC dX2_watchErrors_15 rfl ?_
        refine go_iload_n hC dX2_watchErrors_16 rfl ?_
        refine go_aald hC rfl (fun _ => rfl) (by first | decide | (show _ < 5; omega) | (show _ < 10; omega) | omega) (gm_in rfl (by omega) (by decide)) (gm_cu rfl (by omega)) dX2_watchErrors_17 ?_
        refine go_astore hC dX2_watchErrors_18 (Nat.le_of_ble_eq_true rfl) ?_
        simp only [gm_s0, gm_s1]
        refine go_aload hC dX2_watchErrors_20 rfl ?_
        refine go_geti (ci := 1) hC 5 kwX2_watchErrors_1 rfl rfl (by decide) rfl lkX2_watchErrors_101 (by first | decide | (show _ < 5; omega) | (show _ < 10; omega) | omega) dX2_watchErrors_22 ?_
        refine go_abs hC lmX2_watchErrors_abs_l lmX2_watchErrors_abs_s lmX2_watchErrors_abs_i lmX2_watchErrors_abs_c (by rw [hR]; exact ⟨by decide, Nat.le_of_ble_eq_true rfl⟩) (by rw [hR]; exact ⟨by decide, by decide⟩) rfl dX2_watchErrors_25 ?_
        refine go_istore hC dX2_watchErrors_28 (Nat.le_of_ble_eq_true rfl) ?_
        simp only [gm_s0, gm_s1]
        refine go_iload hC dX2_watchErrors_30 rfl ?_
        refine go_bipush (v := 8) hC dX2_watchErrors_32 (by decide) ?_
        refine go_icmp_le hC 59 dX2_watchErrors_34 (by decide) (fun h34 => ?_) (fun h34 => ?_)
        ·
          refine go_iload hC dX2_watchErrors_59 rfl ?_
          refine go_iconst (v := 4) hC dX2_watchErrors_61 (by decide) ?_
          refine go_icmp_le hC 71 dX2_watchErrors_62 (by decide) (fun h62 => ?_) (fun h62 => ?_)
          ·
            refine go_iinc (v := 1) hC dX2_watchErrors_71 rfl (by decide) ?_
            simp only [gm_s0, gm_s1]
            refine go_goto hC 10 dX2_watchErrors_74 (by decide) ?_
            rw [nI_1]
            refine go_sub (go_mem ?_ ih) ?_
            · simp only [iter]
              generalize iter we2 j M = M1 at h34 h62 ⊢
              have h34 := h34
              have h62 := h62
              first | (rw [show we2 j M1 = _ from if_pos h62, show we1 j M1 = _ from if_pos h34]; done) | (rw [show we2 j M1 = _ from if_pos h62, show we1 j M1 = _ from if_neg h34, gm_un1 (by decide), gm_un1 (by decide)]; done) | (rw [show we2 j M1 = _ from if_neg h62, show we1 j M1 = _ from if_pos h34]; done) | (rw [show we2 j M1 = _ from if_neg h62, show we1 j M1 = _ from if_neg h34, gm_un1 (by decide), gm_un1 (by decide)]; done)
            repeat (first | exact gm_le_nil | refine gm_le_c ?_ | refine gm_le_n ?_)
          ·
            refine go_aload hC dX2_watchErrors_65 rfl ?_
            refine go_iconst (v := 0) hC dX2_watchErrors_67 (by decide) ?_
            refine go_puti (ci := 1) hC 5 kwX2_watchErrors_1 rfl tyX1 tyX1_ok nmX1 rfl (by decide) rfl lkX2_watchErrors_101 (by first | decide | (show _ < 5; omega) | (show _ < 10; omega) | omega) rfl rfl rfl dX2_watchErrors_68 ?_
            refine go_iinc (v := 1) hC dX2_watchErrors_71 rfl (by decide) ?_
            simp only [gm_s0, gm_s1]
            refine go_goto hC 10 dX2_watchErrors_74 (by decide) ?_
            rw [nI_1]
            refine go_sub (go_mem ?_ ih) ?_
            · simp only [iter]
              generalize iter we2 j M = M1 at h34 h62 ⊢
              have h34 := h34
              have h62 := h62
              first | (rw [show we2 j M1 = _ from if_pos h62, show we1 j M1 = _ from if_pos h34]; done) | (rw [show we2 j M1 = _ from if_pos h62, show we1 j M1 = _ from if_neg h34, gm_un1 (by decide), gm_un1 (by decide)]; done) | (rw [show we2 j M1 = _ from if_neg h62, show we1 j M1 = _ from if_pos h34]; done) | (rw [show we2 j M1 = _ from if_neg h62, show we1 j M1 = _ from if_neg h34, gm_un1 (by decide), gm_un1 (by decide)]; done)
            repeat (first | exact gm_le_nil | refine gm_le_c ?_ | refine gm_le_n ?_)
        ·
          refine go_aload hC dX2_watchErrors_37 rfl ?_
          refine go_iconst (v := 1) hC dX2_watchErrors_39 (by decide) ?_
          refine go_puti (ci := 1) hC 1 kwX2_watchErrors_1 rfl tyX1 tyX1_ok nmX1 rfl (by decide) rfl lkX2_watchErrors_58 (by first | decide | (show _ < 5; omega) | (show _ < 10; omega) | omega) rfl rfl rfl dX2_watchErrors_40 ?_
          refine go_aload hC dX2_watchErrors_43 rfl ?_
          refine go_iconst (v := 0) hC dX2_watchErrors_45 (by decide) ?_
          refine go_puti (ci := 1) hC 4 kwX2_watchErrors_1 rfl tyX1 tyX1_ok nmX1 rfl (by decide) rfl lkX2_watchErrors_197 (by first | decide | (show _ < 5; omega) | (show _ < 10; omega) | omega) rfl rfl rfl dX2_watchErrors_46 ?_
          refine go_aload_n hC dX2_watchErrors_49 rfl ?_
          refine go_dup hC dX2_watchErrors_50 rfl ?_
          refine go_geti (ci := 2) hC 15 kwX2_watchErrors_2 rfl rfl (by decide) rfl lkX2_watchErrors_229 (by first | decide | (show _ < 5; omega) | (show _ < 10; omega) | omega) dX2_watchErrors_51 ?_
          refine go_iconst (v := 1) hC dX2_watchErrors_54 (by decide) ?_
          refine go_iadd hC dX2_watchErrors_55 ?_
          refine go_puti (ci := 2) hC 15 kwX2_watchErrors_2 rfl tyX2 tyX2_ok nmX2 rfl (by decide) rfl lkX2_watchErrors_229 (by first | decide | (show _ < 5; omega) | (show _ < 10; omega) | omega) rfl rfl rfl dX2_watchErrors_56 ?_
          refine go_iload hC dX2_watchErrors_59 rfl ?_
          refine go_iconst (v := 4) hC dX2_watchErrors_61 (by decide) ?_
          refine go_icmp_le hC 71 dX2_watchErrors_62 (by decide) (fun h62 => ?_) (fun h62 => ?_)
          ·
            refine go_iinc (v := 1) hC dX2_watchErrors_71 rfl (by decide) ?_
            simp only [gm_s0, gm_s1]
            refine go_goto hC 10 dX2_watchErrors_74 (by decide) ?_
            rw [nI_1]
            refine go_sub (go_mem ?_ ih) ?_
            · simp only [iter]
              generalize iter we2 j M = M1 at h34 h62 ⊢
              have h34 := h34
              have h62 := h62
              first | (rw [show we2 j M1 = _ from if_pos h62, show we1 j M1 = _ from if_pos h34]; done) | (rw [show we2 j M1 = _ from if_pos h62, show we1 j M1 = _ from if_neg h34, gm_un1 (by decide), gm_un1 (by decide)]; done) | (rw [show we2 j M1 = _ from if_neg h62, show we1 j M1 = _ from if_pos h34]; done) | (rw [show we2 j M1 = _ from if_neg h62, show we1 j M1 = _ from if_neg h34, gm_un1 (by decide), gm_un1 (by decide)]; done)
            repeat (first | exact gm_le_nil | refine gm_le_c ?_ | refine gm_le_n ?_)
          ·
            refine go_aload hC dX2_watchErrors_65 rfl ?_
            refine go_iconst (v := 0) hC dX2_watchErrors_67 (by decide) ?_
            refine go_puti (ci := 1) hC 5 kwX2_watchErrors_1 rfl tyX1 tyX1_ok nmX1 rfl (by decide) rfl lkX2_watchErrors_101 (by first | decide | (show _ < 5; omega) | (show _ < 10; omega) | omega) rfl rfl rfl dX2_watchErrors_68 ?_
            refine go_iinc (v := 1) hC dX2_watchErrors_71 rfl (by decide) ?_
            simp only [gm_s0, gm_s1]
            refine go_goto hC 10 dX2_watchErrors_74 (by decide) ?_
            rw [nI_1]
            refine go_sub (go_mem ?_ ih) ?_
            · simp only [iter]
              generalize iter we2 j M = M1 at h34 h62 ⊢
              have h34 := h34
              have h62 := h62
              first | (rw [show we2 j M1 = _ from if_pos h62, show we1 j M1 = _ from if_pos h34]; done) | (rw [show we2 j M1 = _ from if_pos h62, show we1 j M1 = _ from if_neg h34, gm_un1 (by decide), gm_un1 (by decide)]; done) | (rw [show we2 j M1 = _ from if_neg h62, show we1 j M1 = _ from if_pos h34]; done) | (rw [show we2 j M1 = _ from if_neg h62, show we1 j M1 = _ from if_neg h34, gm_un1 (by decide), gm_un1 (by decide)]; done)
            repeat (first | exact gm_le_nil | refine gm_le_c ?_ | refine gm_le_n ?_)
  try dsimp only at lp10
  refine go_aload_n hC dX2_watchErrors_0 rfl ?_
  refine go_getr (ci := 2) hC 0 kwX2_watchErrors_2 rfl rfl (by decide) rfl lkX2_watchErrors_11 (by first | decide | (show _ < 5; omega) | (show _ < 10; omega) | omega) dX2_watchErrors_1 ?_
  refine go_astore_n hC 1 dX2_watchErrors_4 rfl (Nat.le_of_ble_eq_true rfl) ?_
  simp only [gm_s0, gm_s1]
  refine go_aload_n hC dX2_watchErrors_5 rfl ?_
  refine go_alenr (v := 5) hC rfl (fun _ => rfl) (by first | decide | (show _ < 5; omega) | (show _ < 10; omega) | omega) (by decide) dX2_watchErrors_6 ?_
  refine go_istore_n hC 2 dX2_watchErrors_7 rfl (Nat.le_of_ble_eq_true rfl) ?_
  simp only [gm_s0, gm_s1]
  refine go_iconst (v := 0) hC dX2_watchErrors_8 (by decide) ?_
  refine go_istore_n hC 3 dX2_watchErrors_9 rfl (Nat.le_of_ble_eq_true rfl) ?_
  simp only [gm_s0, gm_s1]
  exact lp10
end
section
/-! ===== the class: the fibre (4): bursts, meetings, notes, keys ===== -/
def lbLen (M : gm_M) (j : Nat) : Int32 := if M 1 1 j = 2 then lenP M j 2 else 0
def lbP (M : gm_M) : Nat → gm_M × Int32
  | 0 => (M, 0)
  | j + 1 => (gm_up (gm_up (lbP M j).1 7 j 0 ((lbP M j).2 + (lbP M j).1 1 5 j)) 8 j 0 (((lbP M j).2 + (lbP M j).1 1 5 j) + lbLen (lbP M j).1 j), if lbLen (lbP M j).1 j ≤ 0 then (lbP M j).2 else (lbP M j).2 + (lbLen (lbP M j).1 j + 32))
theorem kwX2_layBursts_1 : ∀ w ∈ wsX10, w ∈ wsX2_layBursts := by decide +kernel
theorem kwX2_layBursts_2 : ∀ w ∈ wsX20, w ∈ wsX2_layBursts := by decide +kernel
theorem lkX2_layBursts_11 : Cond.fieldLink RX2 11 "SharedFibre" "units" "[LSharedFibre$Unit;" ∈ wsX2_layBursts := by decide +kernel
theorem lkX2_layBursts_26 : Cond.fieldLink RX2 26 "SharedFibre" "burstStart" "[I" ∈ wsX2_layBursts := by decide +kernel
theorem lkX2_layBursts_29 : Cond.fieldLink RX2 29 "SharedFibre" "burstEnd" "[I" ∈ wsX2_layBursts := by decide +kernel
theorem lkX2_layBursts_58 : Cond.fieldLink RX2 58 "SharedFibre$Unit" "state" "I" ∈ wsX2_layBursts := by decide +kernel
theorem lkX2_layBursts_101 : Cond.fieldLink RX2 101 "SharedFibre$Unit" "error" "I" ∈ wsX2_layBursts := by decide +kernel
set_option maxHeartbeats 4000000 in
set_option maxRecDepth 100000 in
/-- layBursts -/
theorem c_X2_layBursts (M : gm_M) : KC lyC yX2_layBursts wsX2_layBursts ({ frames := 1, cells := 0, slots := 0, locals := 25 }) (fun ad => [.ref (ad 2 0)]) M (fun _ => none) ((lbP M 5).1) := by
  refine KC.of_v (by decide) rfl rfl (fun _ => by simp) (fun _ => by simp [Value.category])  ?_
  intro X hC hR hX hE
  simp only [List.map_cons, List.map_nil, List.cons_append, List.nil_append, List.length_cons, List.length_nil, List.replicate, Nat.reduceAdd, Nat.reduceSub]
  have lp4 : (fun j : Nat => GO lyC X 0 0 4 [some (.ref (gm_ad X 2 0)), some (.int (lbP M j).2), some (.int (nI j)), none, none] [] (lbP M j).1) 0 := by
    refine loopN (5) (fun j : Nat => GO lyC X 0 0 4 [some (.ref (gm_ad X 2 0)), some (.int (lbP M j).2), some (.int (nI j)), none, none] [] (lbP M j).1) ?_ (fun j hj ih => ?_)
    · try dsimp only
      refine go_iload_n hC dX2_layBursts_4 rfl ?_
      refine go_iconst (v := 5) hC dX2_layBursts_5 (by decide) ?_
      refine go_icmp_ge hC 80 dX2_layBursts_6 (by decide) (fun h6 => ?_) (fun h6 => ?_)
      ·
        refine go_cast ?_ ?_ (hE _ _ dX2_layBursts_80)
        · first | rfl | (simp [*]; done) | (simp [*, gm_us, gm_un1, gm_un2]; done)
        · first | rfl | (simp [*]; done) | (simp [*, gm_us, gm_un1, gm_un2]; done)
      ·
        exact absurd (show nI 5 ≤ nI 5 from nI_le (Nat.le_refl _) (by decide)) h6
    · try dsimp only at ih ⊢
      refine go_iload_n hC dX2_layBursts_4 rfl ?_
      refine go_iconst (v := 5) hC dX2_layBursts_5 (by decide) ?_
      refine go_icmp_ge hC 80 dX2_layBursts_6 (by decide) (fun h6 => ?_) (fun h6 => ?_)
      ·
        exact absurd h6 (show ¬ nI 5 ≤ nI j from nI_ge hj (by decide))
      ·
        refine go_aload_n hC dX2_layBursts_9 rfl ?_
        refine go_getr (ci := 2) hC 0 kwX2_layBursts_2 rfl rfl (by decide) rfl lkX2_layBursts_11 (by first | decide | (show _ < 5; omega) | (show _ < 10; omega) | omega) dX2_layBursts_10 ?_
        refine go_iload_n hC dX2_layBursts_13 rfl ?_
        refine go_aald hC rfl (fun _ => rfl) (by first | decide | (show _ < 5; omega) | (show _ < 10; omega) | omega) (gm_in rfl (by omega) (by decide)) (gm_cu rfl (by omega)) dX2_layBursts_14 ?_
        refine go_astore_n hC 3 dX2_layBursts_15 rfl (Nat.le_of_ble_eq_true rfl) ?_
        simp only [gm_s0, gm_s1]
        refine go_joinI (jpc := 32) (lbLen (lbP M j).1 j) ?_ (fun hj32 => ?_)
        ·
          refine go_istore hC dX2_layBursts_32 (Nat.le_of_ble_eq_true rfl) ?_
          simp only [gm_s0, gm_s1]
          refine go_aload_n hC dX2_layBursts_34 rfl ?_
          refine go_getr (ci := 2) hC 4 kwX2_layBursts_2 rfl rfl (by decide) rfl lkX2_layBursts_26 (by first | decide | (show _ < 5; omega) | (show _ < 10; omega) | omega) dX2_layBursts_35 ?_
          refine go_iload_n hC dX2_layBursts_38 rfl ?_
          refine go_iload_n hC dX2_layBursts_39 rfl ?_
          refine go_aload_n hC dX2_layBursts_40 rfl ?_
          refine go_geti (ci := 1) hC 5 kwX2_layBursts_1 rfl rfl (by decide) rfl lkX2_layBursts_101 (by first | decide | (show _ < 5; omega) | (show _ < 10; omega) | omega) dX2_layBursts_41 ?_
          refine go_iadd hC dX2_layBursts_44 ?_
          refine go_iast hC rfl (by first | decide | (show _ < 5; omega) | (show _ < 10; omega) | omega) (gm_in rfl (by omega) (by decide)) (gm_cl rfl (by omega)) dX2_layBursts_45 ?_
          refine go_aload_n hC dX2_layBursts_46 rfl ?_
          refine go_getr (ci := 2) hC 5 kwX2_layBursts_2 rfl rfl (by decide) rfl lkX2_layBursts_29 (by first | decide | (show _ < 5; omega) | (show _ < 10; omega) | omega) dX2_layBursts_47 ?_
          refine go_iload_n hC dX2_layBursts_50 rfl ?_
          refine go_aload_n hC dX2_layBursts_51 rfl ?_
          refine go_getr (ci := 2) hC 4 kwX2_layBursts_2 rfl rfl (by decide) rfl lkX2_layBursts_26 (by first | decide | (show _ < 5; omega) | (show _ < 10; omega) | omega) dX2_layBursts_52 ?_
          refine go_iload_n hC dX2_layBursts_55 rfl ?_
          refine go_iald hC rfl (by first | decide | (show _ < 5; omega) | (show _ < 10; omega) | omega) (gm_in (n := j) rfl (by omega) (by decide)) (gm_cl (n := j) rfl (by omega)) dX2_layBursts_56 ?_
          rw [gm_us]
          refine go_iload hC dX2_layBursts_57 rfl ?_
          refine go_iadd hC dX2_layBursts_59 ?_
          refine go_iast hC rfl (by first | decide | (show _ < 5; omega) | (show _ < 10; omega) | omega) (gm_in rfl (by omega) (by decide)) (gm_cl rfl (by omega)) dX2_layBursts_60 ?_
          refine go_iload hC dX2_layBursts_61 rfl ?_
          refine go_if_le hC 74 dX2_layBursts_63 (by decide) (fun h63 => ?_) (fun h63 => ?_)
          ·
            have e63 : (lbP M (j + 1)).2 = (lbP M j).2 := if_pos h63
            refine go_iinc (v := 1) hC dX2_layBursts_74 rfl (by decide) ?_
            simp only [gm_s0, gm_s1]
            refine go_goto hC 4 dX2_layBursts_77 (by decide) ?_
            rw [nI_1]
            rw [e63] at ih
            refine go_sub ih ?_
            repeat (first | exact gm_le_nil | refine gm_le_c ?_ | refine gm_le_n ?_)
          ·
            have e63 : (lbP M (j + 1)).2 = (lbP M j).2 + (lbLen (lbP M j).1 j + 32) := if_neg h63
            refine go_iload_n hC dX2_layBursts_66 rfl ?_
            refine go_iload hC dX2_layBursts_67 rfl ?_
            refine go_bipush (v := 32) hC dX2_layBursts_69 (by decide) ?_
            refine go_iadd hC dX2_layBursts_71 ?_
            refine go_iadd hC dX2_layBursts_72 ?_
            refine go_istore_n hC 1 dX2_layBursts_73 rfl (Nat.le_of_ble_eq_true rfl) ?_
            simp only [gm_s0, gm_s1]
            refine go_iinc (v := 1) hC dX2_layBursts_74 rfl (by decide) ?_
            simp only [gm_s0, gm_s1]
            refine go_goto hC 4 dX2_layBursts_77 (by decide) ?_
            rw [nI_1]
            rw [e63] at ih
            refine go_sub ih ?_
            repeat (first | exact gm_le_nil | refine gm_le_c ?_ | refine gm_le_n ?_)
        ·
          refine go_aload_n hC dX2_layBursts_16 rfl ?_
          refine go_geti (ci := 1) hC 1 kwX2_layBursts_1 rfl rfl (by decide) rfl lkX2_layBursts_58 (by first | decide | (show _ < 5; omega) | (show _ < 10; omega) | omega) dX2_layBursts_17 ?_
          refine go_iconst (v := 2) hC dX2_layBursts_20 (by decide) ?_
          refine go_icmp_ne hC 31 dX2_layBursts_21 (by decide) (fun h21 => ?_) (fun h21 => ?_)
          ·
            refine go_iconst (v := 0) hC dX2_layBursts_31 (by decide) ?_
            refine go_cast ?_ rfl hj32
            first | (simp only [lbLen, if_pos h21]; done) | (simp only [lbLen, if_neg h21]; done)
          ·
            refine go_aload_n hC dX2_layBursts_24 rfl ?_
            refine go_callV (n := 0) (k0 := 1) (n0 := j) hC hX (c_X1_burstLength _ _ (by omega)) gX2_layBursts_X1_burstLength rfl (by decide +kernel) ⟨rfl, rfl⟩ (by rw [hR]; exact ⟨by decide, by decide⟩) (by rw [hR]; exact ⟨by decide, by decide⟩) rfl rfl rfl (by first | decide | (show _ < 5; omega) | (show _ < 10; omega) | omega) rfl rfl rfl (Nat.le_of_ble_eq_true rfl) dX2_layBursts_25 ?_
            simp only [gm_r0, gm_r1]
            refine go_goto hC 32 dX2_layBursts_28 (by decide) ?_
            refine go_cast ?_ rfl hj32
            first | (simp only [lbLen, if_pos h21]; done) | (simp only [lbLen, if_neg h21]; done)
  try dsimp only at lp4
  refine go_iconst (v := 0) hC dX2_layBursts_0 (by decide) ?_
  refine go_istore_n hC 1 dX2_layBursts_1 rfl (Nat.le_of_ble_eq_true rfl) ?_
  simp only [gm_s0, gm_s1]
  refine go_iconst (v := 0) hC dX2_layBursts_2 (by decide) ?_
  refine go_istore_n hC 2 dX2_layBursts_3 rfl (Nat.le_of_ble_eq_true rfl) ?_
  simp only [gm_s0, gm_s1]
  exact lp4
def cm1 (i j : Nat) (M : gm_M) : gm_M := if (if M 8 j 0 < M 8 i 0 then M 8 j 0 else M 8 i 0) ≤ (if M 7 i 0 < M 7 j 0 then M 7 j 0 else M 7 i 0) then M else gm_up M 2 13 0 (M 2 13 0 + 1)
def cm2 : Nat → gm_M → gm_M := fun i M => iter (fun d M => cm1 i (i + 1 + d) M) (4 - i) M
theorem kwX2_countMeetings_2 : ∀ w ∈ wsX20, w ∈ wsX2_countMeetings := by decide +kernel
theorem lkX2_countMeetings_26 : Cond.fieldLink RX2 26 "SharedFibre" "burstStart" "[I" ∈ wsX2_countMeetings := by decide +kernel
theorem lkX2_countMeetings_29 : Cond.fieldLink RX2 29 "SharedFibre" "burstEnd" "[I" ∈ wsX2_countMeetings := by decide +kernel
theorem lkX2_countMeetings_223 : Cond.fieldLink RX2 223 "SharedFibre" "met" "I" ∈ wsX2_countMeetings := by decide +kernel
theorem lmX2_countMeetings_max_c : Cond.code Lib.Math.max.name Lib.Math.max.code 2 (some .int) ∈ wsX2_countMeetings := by decide +kernel
theorem lmX2_countMeetings_max_i : Cond.initialized "java/lang/Math" ∈ wsX2_countMeetings := by decide +kernel
theorem lmX2_countMeetings_max_l : Cond.methodLink RX2 278 Lib.Math.max.name ∈ wsX2_countMeetings := by decide +kernel
theorem lmX2_countMeetings_max_s : Cond.static Lib.Math.max.name ∈ wsX2_countMeetings := by decide +kernel
theorem lmX2_countMeetings_min_c : Cond.code Lib.Math.min.name Lib.Math.min.code 2 (some .int) ∈ wsX2_countMeetings := by decide +kernel
theorem lmX2_countMeetings_min_i : Cond.initialized "java/lang/Math" ∈ wsX2_countMeetings := by decide +kernel
theorem lmX2_countMeetings_min_l : Cond.methodLink RX2 282 Lib.Math.min.name ∈ wsX2_countMeetings := by decide +kernel
theorem lmX2_countMeetings_min_s : Cond.static Lib.Math.min.name ∈ wsX2_countMeetings := by decide +kernel
set_option maxHeartbeats 4000000 in
set_option maxRecDepth 100000 in
/-- countMeetings -/
theorem c_X2_countMeetings (M : gm_M) : KC lyC yX2_countMeetings wsX2_countMeetings ({ frames := 1, cells := 0, slots := 0, locals := 21 }) (fun ad => [.ref (ad 2 0)]) M (fun _ => none) (iter cm2 5 M) := by
  refine KC.of_v (by decide) rfl rfl (fun _ => by simp) (fun _ => by simp [Value.category])  ?_
  intro X hC hR hX hE
  simp only [List.map_cons, List.map_nil, List.cons_append, List.nil_append, List.length_cons, List.length_nil, List.replicate, Nat.reduceAdd, Nat.reduceSub]
  have lp2 : (fun j : Nat => GO lyC X 0 0 2 [some (.ref (gm_ad X 2 0)), some (.int (nI j)), none] [] (iter cm2 j M)) 0 := by
    refine loopN (5) (fun j : Nat => GO lyC X 0 0 2 [some (.ref (gm_ad X 2 0)), some (.int (nI j)), none] [] (iter cm2 j M)) ?_ (fun j hj ih => ?_)
    · try dsimp only
      refine go_iload_n hC dX2_countMeetings_2 rfl ?_
      refine go_iconst (v := 5) hC dX2_countMeetings_3 (by decide) ?_
      refine go_icmp_ge hC 71 dX2_countMeetings_4 (by decide) (fun h4 => ?_) (fun h4 => ?_)
      ·
        refine go_cast ?_ ?_ (hE _ _ dX2_countMeetings_71)
        · first | rfl | (simp [*]; done) | (simp [*, gm_us, gm_un1, gm_un2]; done)
        · first | rfl | (simp [*]; done) | (simp [*, gm_us, gm_un1, gm_un2]; done)
      ·
        exact absurd (show nI 5 ≤ nI 5 from nI_le (Nat.le_refl _) (by decide)) h4
    · try dsimp only at ih ⊢
      refine go_iload_n hC dX2_countMeetings_2 rfl ?_
      refine go_iconst (v := 5) hC dX2_countMeetings_3 (by decide) ?_
      refine go_icmp_ge hC 71 dX2_countMeetings_4 (by decide) (fun h4 => ?_) (fun h4 => ?_)
      ·
        exact absurd h4 (show ¬ nI 5 ≤ nI j from nI_ge hj (by decide))
      ·
        refine go_iload_n hC dX2_countMeetings_7 rfl ?_
        refine go_iconst (v := 1) hC dX2_countMeetings_8 (by decide) ?_
        refine go_iadd hC dX2_countMeetings_9 ?_
        refine go_istore_n hC 2 dX2_countMeetings_10 rfl (Nat.le_of_ble_eq_true rfl) ?_
        simp only [gm_s0, gm_s1]
        rw [nI_1]
        have lp11 : (fun d : Nat => GO lyC X 0 0 11 [some (.ref (gm_ad X 2 0)), some (.int (nI j)), some (.int (nI (j + 1 + d)))] [] (iter (fun d M => cm1 j (j + 1 + d) M) d (iter cm2 j M))) 0 := by
          refine loopN (4 - j) (fun d : Nat => GO lyC X 0 0 11 [some (.ref (gm_ad X 2 0)), some (.int (nI j)), some (.int (nI (j + 1 + d)))] [] (iter (fun d M => cm1 j (j + 1 + d) M) d (iter cm2 j M))) ?_ (fun d hd ihd => ?_)
          · try dsimp only
            refine go_iload_n hC dX2_countMeetings_11 rfl ?_
            refine go_iconst (v := 5) hC dX2_countMeetings_12 (by decide) ?_
            refine go_icmp_ge hC 65 dX2_countMeetings_13 (by decide) (fun h13 => ?_) (fun h13 => ?_)
            ·
              refine go_iinc (v := 1) hC dX2_countMeetings_65 rfl (by decide) ?_
              simp only [gm_s0, gm_s1]
              refine go_goto hC 2 dX2_countMeetings_68 (by decide) ?_
              rw [nI_1]
              refine go_sub (go_mem ?_ ih) ?_
              · rfl
              repeat (first | exact gm_le_nil | refine gm_le_c ?_ | refine gm_le_n ?_)
            ·
              exact absurd (show nI 5 ≤ nI (j + 1 + (4 - j)) by rw [show j + 1 + (4 - j) = 5 by omega]; exact nI_le (Nat.le_refl _) (by decide)) h13
          · try dsimp only at ihd ⊢
            refine go_iload_n hC dX2_countMeetings_11 rfl ?_
            refine go_iconst (v := 5) hC dX2_countMeetings_12 (by decide) ?_
            refine go_icmp_ge hC 65 dX2_countMeetings_13 (by decide) (fun h13 => ?_) (fun h13 => ?_)
            ·
              exact absurd h13 (show ¬ nI 5 ≤ nI (j + 1 + d) from nI_ge (by omega) (by decide))
            ·
              refine go_aload_n hC dX2_countMeetings_16 rfl ?_
              refine go_getr (ci := 2) hC 4 kwX2_countMeetings_2 rfl rfl (by decide) rfl lkX2_countMeetings_26 (by first | decide | (show _ < 5; omega) | (show _ < 10; omega) | omega) dX2_countMeetings_17 ?_
              refine go_iload_n hC dX2_countMeetings_20 rfl ?_
              refine go_iald hC rfl (by first | decide | (show _ < 5; omega) | (show _ < 10; omega) | omega) (gm_in rfl (by omega) (by decide)) (gm_cl rfl (by omega)) dX2_countMeetings_21 ?_
              refine go_aload_n hC dX2_countMeetings_22 rfl ?_
              refine go_getr (ci := 2) hC 4 kwX2_countMeetings_2 rfl rfl (by decide) rfl lkX2_countMeetings_26 (by first | decide | (show _ < 5; omega) | (show _ < 10; omega) | omega) dX2_countMeetings_23 ?_
              refine go_iload_n hC dX2_countMeetings_26 rfl ?_
              refine go_iald hC rfl (by first | decide | (show _ < 5; omega) | (show _ < 10; omega) | omega) (gm_in rfl (by omega) (by decide)) (gm_cl rfl (by omega)) dX2_countMeetings_27 ?_
              refine go_max hC lmX2_countMeetings_max_l lmX2_countMeetings_max_s lmX2_countMeetings_max_i lmX2_countMeetings_max_c (by rw [hR]; exact ⟨by decide, Nat.le_of_ble_eq_true rfl⟩) (by rw [hR]; exact ⟨by decide, by decide⟩) rfl dX2_countMeetings_28 ?_
              refine go_aload_n hC dX2_countMeetings_31 rfl ?_
              refine go_getr (ci := 2) hC 5 kwX2_countMeetings_2 rfl rfl (by decide) rfl lkX2_countMeetings_29 (by first | decide | (show _ < 5; omega) | (show _ < 10; omega) | omega) dX2_countMeetings_32 ?_
              refine go_iload_n hC dX2_countMeetings_35 rfl ?_
              refine go_iald hC rfl (by first | decide | (show _ < 5; omega) | (show _ < 10; omega) | omega) (gm_in rfl (by omega) (by decide)) (gm_cl rfl (by omega)) dX2_countMeetings_36 ?_
              refine go_aload_n hC dX2_countMeetings_37 rfl ?_
              refine go_getr (ci := 2) hC 5 kwX2_countMeetings_2 rfl rfl (by decide) rfl lkX2_countMeetings_29 (by first | decide | (show _ < 5; omega) | (show _ < 10; omega) | omega) dX2_countMeetings_38 ?_
              refine go_iload_n hC dX2_countMeetings_41 rfl ?_
              refine go_iald hC rfl (by first | decide | (show _ < 5; omega) | (show _ < 10; omega) | omega) (gm_in rfl (by omega) (by decide)) (gm_cl rfl (by omega)) dX2_countMeetings_42 ?_
              refine go_min hC lmX2_countMeetings_min_l lmX2_countMeetings_min_s lmX2_countMeetings_min_i lmX2_countMeetings_min_c (by rw [hR]; exact ⟨by decide, Nat.le_of_ble_eq_true rfl⟩) (by rw [hR]; exact ⟨by decide, by decide⟩) rfl dX2_countMeetings_43 ?_
              refine go_icmp_ge hC 59 dX2_countMeetings_46 (by decide) (fun h46 => ?_) (fun h46 => ?_)
              ·
                refine go_iinc (v := 1) hC dX2_countMeetings_59 rfl (by decide) ?_
                simp only [gm_s0, gm_s1]
                refine go_goto hC 11 dX2_countMeetings_62 (by decide) ?_
                rw [nI_1]
                refine go_mem ?_ ihd
                rw [iter_s _ d]
                first | exact (if_pos h46).symm | exact (if_neg h46).symm
              ·
                refine go_aload_n hC dX2_countMeetings_49 rfl ?_
                refine go_dup hC dX2_countMeetings_50 rfl ?_
                refine go_geti (ci := 2) hC 13 kwX2_countMeetings_2 rfl rfl (by decide) rfl lkX2_countMeetings_223 (by first | decide | (show _ < 5; omega) | (show _ < 10; omega) | omega) dX2_countMeetings_51 ?_
                refine go_iconst (v := 1) hC dX2_countMeetings_54 (by decide) ?_
                refine go_iadd hC dX2_countMeetings_55 ?_
                refine go_puti (ci := 2) hC 13 kwX2_countMeetings_2 rfl tyX2 tyX2_ok nmX2 rfl (by decide) rfl lkX2_countMeetings_223 (by first | decide | (show _ < 5; omega) | (show _ < 10; omega) | omega) rfl rfl rfl dX2_countMeetings_56 ?_
                refine go_iinc (v := 1) hC dX2_countMeetings_59 rfl (by decide) ?_
                simp only [gm_s0, gm_s1]
                refine go_goto hC 11 dX2_countMeetings_62 (by decide) ?_
                rw [nI_1]
                refine go_mem ?_ ihd
                rw [iter_s _ d]
                first | exact (if_pos h46).symm | exact (if_neg h46).symm
        try dsimp only at lp11
        exact lp11
  try dsimp only at lp2
  refine go_iconst (v := 0) hC dX2_countMeetings_0 (by decide) ?_
  refine go_istore_n hC 1 dX2_countMeetings_1 rfl (Nat.le_of_ble_eq_true rfl) ?_
  simp only [gm_s0, gm_s1]
  exact lp2
def ntF (M : gm_M) (a : Nat) (d u c : Int32) : gm_M := gm_up (gm_up (gm_up (gm_up (gm_up M 5 (4 * a) 0 d) 5 (4 * a + 1) 0 u) 5 (4 * a + 2) 0 c) 5 (4 * a + 3) 0 (M 2 9 0)) 2 11 0 (nI (a + 1))
theorem kwX2_note_2 : ∀ w ∈ wsX20, w ∈ wsX2_note := by decide +kernel
theorem lkX2_note_19 : Cond.fieldLink RX2 19 "SharedFibre" "arrivals" "[I" ∈ wsX2_note := by decide +kernel
theorem lkX2_note_143 : Cond.fieldLink RX2 143 "SharedFibre" "frames" "I" ∈ wsX2_note := by decide +kernel
theorem lkX2_note_158 : Cond.fieldLink RX2 158 "SharedFibre" "arrived" "I" ∈ wsX2_note := by decide +kernel
set_option maxHeartbeats 4000000 in
set_option maxRecDepth 100000 in
/-- note -/
theorem c_X2_note (M : gm_M) (a : Nat) (ha : M 2 11 0 = nI a) (h1 : a < 100) (d u c : Int32) : KC lyC yX2_note wsX2_note ({ frames := 0, cells := 0, slots := 0, locals := 0 }) (fun ad => [.ref (ad 2 0), .int d, .int u, .int c]) M (fun _ => none) (ntF M a d u c) := by
  refine KC.of_v (by decide) rfl rfl (fun _ => by simp) (fun _ => by simp [Value.category])  ?_
  intro X hC hR hX hE
  simp only [List.map_cons, List.map_nil, List.cons_append, List.nil_append, List.length_cons, List.length_nil, List.replicate, Nat.reduceAdd, Nat.reduceSub]
  refine go_aload_n hC dX2_note_0 rfl ?_
  refine go_geti (ci := 2) hC 11 kwX2_note_2 rfl rfl (by decide) rfl lkX2_note_158 (by first | decide | (show _ < 5; omega) | (show _ < 10; omega) | omega) dX2_note_1 ?_
  refine go_iconst (v := 4) hC dX2_note_4 (by decide) ?_
  refine go_imul hC dX2_note_5 ?_
  refine go_istore hC dX2_note_6 (Nat.le_of_ble_eq_true rfl) ?_
  simp only [gm_s0, gm_s1]
  rw [show M 2 11 0 * 4 = nI (4 * a) by rw [ha, Nat.mul_comm]; exact pk_mul a 4]
  refine go_aload_n hC dX2_note_8 rfl ?_
  refine go_getr (ci := 2) hC 2 kwX2_note_2 rfl rfl (by decide) rfl lkX2_note_19 (by first | decide | (show _ < 5; omega) | (show _ < 10; omega) | omega) dX2_note_9 ?_
  refine go_iload hC dX2_note_12 rfl ?_
  refine go_iload_n hC dX2_note_14 rfl ?_
  refine go_iast hC rfl (by first | decide | (show _ < 5; omega) | (show _ < 10; omega) | omega) (gm_in rfl (by omega) (by decide)) (gm_cl rfl (by omega)) dX2_note_15 ?_
  refine go_aload_n hC dX2_note_16 rfl ?_
  refine go_getr (ci := 2) hC 2 kwX2_note_2 rfl rfl (by decide) rfl lkX2_note_19 (by first | decide | (show _ < 5; omega) | (show _ < 10; omega) | omega) dX2_note_17 ?_
  refine go_iload hC dX2_note_20 rfl ?_
  refine go_iconst (v := 1) hC dX2_note_22 (by decide) ?_
  refine go_iadd hC dX2_note_23 ?_
  refine go_iload_n hC dX2_note_24 rfl ?_
  refine go_iast hC rfl (by first | decide | (show _ < 5; omega) | (show _ < 10; omega) | omega) (gm_in (nI_add (4 * a) 1) (by omega) (by decide)) (gm_cl (nI_add (4 * a) 1) (by omega)) dX2_note_25 ?_
  refine go_aload_n hC dX2_note_26 rfl ?_
  refine go_getr (ci := 2) hC 2 kwX2_note_2 rfl rfl (by decide) rfl lkX2_note_19 (by first | decide | (show _ < 5; omega) | (show _ < 10; omega) | omega) dX2_note_27 ?_
  refine go_iload hC dX2_note_30 rfl ?_
  refine go_iconst (v := 2) hC dX2_note_32 (by decide) ?_
  refine go_iadd hC dX2_note_33 ?_
  refine go_iload_n hC dX2_note_34 rfl ?_
  refine go_iast hC rfl (by first | decide | (show _ < 5; omega) | (show _ < 10; omega) | omega) (gm_in (nI_add (4 * a) 2) (by omega) (by decide)) (gm_cl (nI_add (4 * a) 2) (by omega)) dX2_note_35 ?_
  refine go_aload_n hC dX2_note_36 rfl ?_
  refine go_getr (ci := 2) hC 2 kwX2_note_2 rfl rfl (by decide) rfl lkX2_note_19 (by first | decide | (show _ < 5; omega) | (show _ < 10; omega) | omega) dX2_note_37 ?_
  refine go_iload hC dX2_note_40 rfl ?_
  refine go_iconst (v := 3) hC dX2_note_42 (by decide) ?_
  refine go_iadd hC dX2_note_43 ?_
  refine go_aload_n hC dX2_note_44 rfl ?_
  refine go_geti (ci := 2) hC 9 kwX2_note_2 rfl rfl (by decide) rfl lkX2_note_143 (by first | decide | (show _ < 5; omega) | (show _ < 10; omega) | omega) dX2_note_45 ?_
  refine go_iast hC rfl (by first | decide | (show _ < 5; omega) | (show _ < 10; omega) | omega) (gm_in (nI_add (4 * a) 3) (by omega) (by decide)) (gm_cl (nI_add (4 * a) 3) (by omega)) dX2_note_48 ?_
  refine go_aload_n hC dX2_note_49 rfl ?_
  refine go_dup hC dX2_note_50 rfl ?_
  refine go_geti (ci := 2) hC 11 kwX2_note_2 rfl rfl (by decide) rfl lkX2_note_158 (by first | decide | (show _ < 5; omega) | (show _ < 10; omega) | omega) dX2_note_51 ?_
  refine go_iconst (v := 1) hC dX2_note_54 (by decide) ?_
  refine go_iadd hC dX2_note_55 ?_
  refine go_puti (ci := 2) hC 11 kwX2_note_2 rfl tyX2 tyX2_ok nmX2 rfl (by decide) rfl lkX2_note_158 (by first | decide | (show _ < 5; omega) | (show _ < 10; omega) | omega) rfl rfl rfl dX2_note_56 ?_
  refine go_cast rfl ?_ (hE _ _ dX2_note_59)
  unfold ntF
  simp only [gm_un1 (show (2 : Nat) ≠ 5 by decide), ha, nI_1]
def tdF : Nat → gm_M → gm_M := fun u M => if M 1 1 u = 2 then uKey (uWord M u (M 2 9 0)) u else M
theorem kwX2_tellDown_1 : ∀ w ∈ wsX10, w ∈ wsX2_tellDown := by decide +kernel
theorem kwX2_tellDown_2 : ∀ w ∈ wsX20, w ∈ wsX2_tellDown := by decide +kernel
theorem lkX2_tellDown_11 : Cond.fieldLink RX2 11 "SharedFibre" "units" "[LSharedFibre$Unit;" ∈ wsX2_tellDown := by decide +kernel
theorem lkX2_tellDown_58 : Cond.fieldLink RX2 58 "SharedFibre$Unit" "state" "I" ∈ wsX2_tellDown := by decide +kernel
theorem lkX2_tellDown_143 : Cond.fieldLink RX2 143 "SharedFibre" "frames" "I" ∈ wsX2_tellDown := by decide +kernel
set_option maxHeartbeats 4000000 in
set_option maxRecDepth 100000 in
/-- tellDown -/
theorem c_X2_tellDown (M : gm_M) : KC lyC yX2_tellDown wsX2_tellDown ({ frames := 2, cells := 0, slots := 0, locals := 44 }) (fun ad => [.ref (ad 2 0)]) M (fun _ => none) (iter tdF 5 M) := by
  refine KC.of_v (by decide) rfl rfl (fun _ => by simp) (fun _ => by simp [Value.category])  ?_
  intro X hC hR hX hE
  simp only [List.map_cons, List.map_nil, List.cons_append, List.nil_append, List.length_cons, List.length_nil, List.replicate, Nat.reduceAdd, Nat.reduceSub]
  have lp10 : (fun j : Nat => GO lyC X 0 0 10 [some (.ref (gm_ad X 2 0)), some (.ref (gm_ad X 3 0)), some (.int 5), some (.int (nI j)), none] [] (iter tdF j M)) 0 := by
    refine loopN (5) (fun j : Nat => GO lyC X 0 0 10 [some (.ref (gm_ad X 2 0)), some (.ref (gm_ad X 3 0)), some (.int 5), some (.int (nI j)), none] [] (iter tdF j M)) ?_ (fun j hj ih => ?_)
    · try dsimp only
      refine go_iload_n hC dX2_tellDown_10 rfl ?_
      refine go_iload_n hC dX2_tellDown_11 rfl ?_
      refine go_icmp_ge hC 49 dX2_tellDown_12 (by decide) (fun h12 => ?_) (fun h12 => ?_)
      ·
        refine go_cast ?_ ?_ (hE _ _ dX2_tellDown_49)
        · first | rfl | (simp [*]; done) | (simp [*, gm_us, gm_un1, gm_un2]; done)
        · first | rfl | (simp [*]; done) | (simp [*, gm_us, gm_un1, gm_un2]; done)
      ·
        exact absurd (show nI 5 ≤ nI 5 from nI_le (Nat.le_refl _) (by decide)) h12
    · try dsimp only at ih ⊢
      refine go_iload_n hC dX2_tellDown_10 rfl ?_
      refine go_iload_n hC dX2_tellDown_11 rfl ?_
      refine go_icmp_ge hC 49 dX2_tellDown_12 (by decide) (fun h12 => ?_) (fun h12 => ?_)
      ·
        exact absurd h12 (show ¬ nI 5 ≤ nI j from nI_ge hj (by decide))
      ·
        refine go_aload_n hC dX2_tellDown_15 rfl ?_
        refine go_iload_n hC dX2_tellDown_16 rfl ?_
        refine go_aald hC rfl (fun _ => rfl) (by first | decide | (show _ < 5; omega) | (show _ < 10; omega) | omega) (gm_in rfl (by omega) (by decide)) (gm_cu rfl (by omega)) dX2_tellDown_17 ?_
        refine go_astore hC dX2_tellDown_18 (Nat.le_of_ble_eq_true rfl) ?_
        simp only [gm_s0, gm_s1]
        refine go_aload hC dX2_tellDown_20 rfl ?_
        refine go_geti (ci := 1) hC 1 kwX2_tellDown_1 rfl rfl (by decide) rfl lkX2_tellDown_58 (by first | decide | (show _ < 5; omega) | (show _ < 10; omega) | omega) dX2_tellDown_22 ?_
        refine go_iconst (v := 2) hC dX2_tellDown_25 (by decide) ?_
        refine go_icmp_ne hC 43 dX2_tellDown_26 (by decide) (fun h26 => ?_) (fun h26 => ?_)
        ·
          refine go_iinc (v := 1) hC dX2_tellDown_43 rfl (by decide) ?_
          simp only [gm_s0, gm_s1]
          refine go_goto hC 10 dX2_tellDown_46 (by decide) ?_
          rw [nI_1]
          refine go_sub (go_mem ?_ ih) ?_
          · rw [iter_s tdF j]
            first | (simp only [tdF, if_pos h26]; done) | (simp only [tdF, if_neg h26]; done)
          repeat (first | exact gm_le_nil | refine gm_le_c ?_ | refine gm_le_n ?_)
        ·
          refine go_aload hC dX2_tellDown_29 rfl ?_
          refine go_aload_n hC dX2_tellDown_31 rfl ?_
          refine go_geti (ci := 2) hC 9 kwX2_tellDown_2 rfl rfl (by decide) rfl lkX2_tellDown_143 (by first | decide | (show _ < 5; omega) | (show _ < 10; omega) | omega) dX2_tellDown_32 ?_
          refine go_callV (n := 1) (k0 := 1) (n0 := j) hC hX (c_X1_takeWord _ _ (by omega) _) gX2_tellDown_X1_takeWord rfl (by decide +kernel) ⟨rfl, rfl⟩ (by rw [hR]; exact ⟨by decide, by decide⟩) (by rw [hR]; exact ⟨by decide, by decide⟩) rfl rfl rfl (by first | decide | (show _ < 5; omega) | (show _ < 10; omega) | omega) rfl rfl rfl (Nat.le_of_ble_eq_true rfl) dX2_tellDown_35 ?_
          simp only [gm_r0, gm_r1]
          refine go_aload hC dX2_tellDown_38 rfl ?_
          refine go_callV (n := 0) (k0 := 1) (n0 := j) hC hX (c_X1_takeKey _ _ (by omega)) gX2_tellDown_X1_takeKey rfl (by decide +kernel) ⟨rfl, rfl⟩ (by rw [hR]; exact ⟨by decide, by decide⟩) (by rw [hR]; exact ⟨by decide, by decide⟩) rfl rfl rfl (by first | decide | (show _ < 5; omega) | (show _ < 10; omega) | omega) rfl rfl rfl (Nat.le_of_ble_eq_true rfl) dX2_tellDown_40 ?_
          simp only [gm_r0, gm_r1]
          refine go_iinc (v := 1) hC dX2_tellDown_43 rfl (by decide) ?_
          simp only [gm_s0, gm_s1]
          refine go_goto hC 10 dX2_tellDown_46 (by decide) ?_
          rw [nI_1]
          refine go_sub (go_mem ?_ ih) ?_
          · rw [iter_s tdF j]
            first | (simp only [tdF, if_pos h26]; done) | (simp only [tdF, if_neg h26]; done)
          repeat (first | exact gm_le_nil | refine gm_le_c ?_ | refine gm_le_n ?_)
  try dsimp only at lp10
  refine go_aload_n hC dX2_tellDown_0 rfl ?_
  refine go_getr (ci := 2) hC 0 kwX2_tellDown_2 rfl rfl (by decide) rfl lkX2_tellDown_11 (by first | decide | (show _ < 5; omega) | (show _ < 10; omega) | omega) dX2_tellDown_1 ?_
  refine go_astore_n hC 1 dX2_tellDown_4 rfl (Nat.le_of_ble_eq_true rfl) ?_
  simp only [gm_s0, gm_s1]
  refine go_aload_n hC dX2_tellDown_5 rfl ?_
  refine go_alenr (v := 5) hC rfl (fun _ => rfl) (by first | decide | (show _ < 5; omega) | (show _ < 10; omega) | omega) (by decide) dX2_tellDown_6 ?_
  refine go_istore_n hC 2 dX2_tellDown_7 rfl (Nat.le_of_ble_eq_true rfl) ?_
  simp only [gm_s0, gm_s1]
  refine go_iconst (v := 0) hC dX2_tellDown_8 (by decide) ?_
  refine go_istore_n hC 3 dX2_tellDown_9 rfl (Nat.le_of_ble_eq_true rfl) ?_
  simp only [gm_s0, gm_s1]
  exact lp10
def csF : Nat → gm_M → gm_M := fun u M => gm_up M 1 14 u 0
theorem kwX2_clearSpoilt_1 : ∀ w ∈ wsX10, w ∈ wsX2_clearSpoilt := by decide +kernel
theorem kwX2_clearSpoilt_2 : ∀ w ∈ wsX20, w ∈ wsX2_clearSpoilt := by decide +kernel
theorem lkX2_clearSpoilt_11 : Cond.fieldLink RX2 11 "SharedFibre" "units" "[LSharedFibre$Unit;" ∈ wsX2_clearSpoilt := by decide +kernel
theorem lkX2_clearSpoilt_135 : Cond.fieldLink RX2 135 "SharedFibre$Unit" "spoilt" "Z" ∈ wsX2_clearSpoilt := by decide +kernel
set_option maxHeartbeats 4000000 in
set_option maxRecDepth 100000 in
/-- clearSpoilt -/
theorem c_X2_clearSpoilt (M : gm_M) : KC lyC yX2_clearSpoilt wsX2_clearSpoilt ({ frames := 0, cells := 0, slots := 0, locals := 0 }) (fun ad => [.ref (ad 2 0)]) M (fun _ => none) (iter csF 5 M) := by
  refine KC.of_v (by decide) rfl rfl (fun _ => by simp) (fun _ => by simp [Value.category])  ?_
  intro X hC hR hX hE
  simp only [List.map_cons, List.map_nil, List.cons_append, List.nil_append, List.length_cons, List.length_nil, List.replicate, Nat.reduceAdd, Nat.reduceSub]
  have lp10 : (fun j : Nat => GO lyC X 0 0 10 [some (.ref (gm_ad X 2 0)), some (.ref (gm_ad X 3 0)), some (.int 5), some (.int (nI j)), none] [] (iter csF j M)) 0 := by
    refine loopN (5) (fun j : Nat => GO lyC X 0 0 10 [some (.ref (gm_ad X 2 0)), some (.ref (gm_ad X 3 0)), some (.int 5), some (.int (nI j)), none] [] (iter csF j M)) ?_ (fun j hj ih => ?_)
    · try dsimp only
      refine go_iload_n hC dX2_clearSpoilt_10 rfl ?_
      refine go_iload_n hC dX2_clearSpoilt_11 rfl ?_
      refine go_icmp_ge hC 32 dX2_clearSpoilt_12 (by decide) (fun h12 => ?_) (fun h12 => ?_)
      ·
        refine go_cast ?_ ?_ (hE _ _ dX2_clearSpoilt_32)
        · first | rfl | (simp [*]; done) | (simp [*, gm_us, gm_un1, gm_un2]; done)
        · first | rfl | (simp [*]; done) | (simp [*, gm_us, gm_un1, gm_un2]; done)
      ·
        exact absurd (show nI 5 ≤ nI 5 from nI_le (Nat.le_refl _) (by decide)) h12
    · try dsimp only at ih ⊢
      refine go_iload_n hC dX2_clearSpoilt_10 rfl ?_
      refine go_iload_n hC dX2_clearSpoilt_11 rfl ?_
      refine go_icmp_ge hC 32 dX2_clearSpoilt_12 (by decide) (fun h12 => ?_) (fun h12 => ?_)
      ·
        exact absurd h12 (show ¬ nI 5 ≤ nI j from nI_ge hj (by decide))
      ·
        refine go_aload_n hC dX2_clearSpoilt_15 rfl ?_
        refine go_iload_n hC dX2_clearSpoilt_16 rfl ?_
        refine go_aald hC rfl (fun _ => rfl) (by first | decide | (show _ < 5; omega) | (show _ < 10; omega) | omega) (gm_in rfl (by omega) (by decide)) (gm_cu rfl (by omega)) dX2_clearSpoilt_17 ?_
        refine go_astore hC dX2_clearSpoilt_18 (Nat.le_of_ble_eq_true rfl) ?_
        simp only [gm_s0, gm_s1]
        refine go_aload hC dX2_clearSpoilt_20 rfl ?_
        refine go_iconst (v := 0) hC dX2_clearSpoilt_22 (by decide) ?_
        refine go_puti (ci := 1) hC 14 kwX2_clearSpoilt_1 rfl tyX1 tyX1_ok nmX1 rfl (by decide) rfl lkX2_clearSpoilt_135 (by first | decide | (show _ < 5; omega) | (show _ < 10; omega) | omega) rfl (by decide) (by decide) dX2_clearSpoilt_23 ?_
        refine go_iinc (v := 1) hC dX2_clearSpoilt_26 rfl (by decide) ?_
        simp only [gm_s0, gm_s1]
        refine go_goto hC 10 dX2_clearSpoilt_29 (by decide) ?_
        rw [nI_1]
        refine go_sub (go_mem ?_ ih) ?_
        · rfl
        repeat (first | exact gm_le_nil | refine gm_le_c ?_ | refine gm_le_n ?_)
  try dsimp only at lp10
  refine go_aload_n hC dX2_clearSpoilt_0 rfl ?_
  refine go_getr (ci := 2) hC 0 kwX2_clearSpoilt_2 rfl rfl (by decide) rfl lkX2_clearSpoilt_11 (by first | decide | (show _ < 5; omega) | (show _ < 10; omega) | omega) dX2_clearSpoilt_1 ?_
  refine go_astore_n hC 1 dX2_clearSpoilt_4 rfl (Nat.le_of_ble_eq_true rfl) ?_
  simp only [gm_s0, gm_s1]
  refine go_aload_n hC dX2_clearSpoilt_5 rfl ?_
  refine go_alenr (v := 5) hC rfl (fun _ => rfl) (by first | decide | (show _ < 5; omega) | (show _ < 10; omega) | omega) (by decide) dX2_clearSpoilt_6 ?_
  refine go_istore_n hC 2 dX2_clearSpoilt_7 rfl (Nat.le_of_ble_eq_true rfl) ?_
  simp only [gm_s0, gm_s1]
  refine go_iconst (v := 0) hC dX2_clearSpoilt_8 (by decide) ?_
  refine go_istore_n hC 3 dX2_clearSpoilt_9 rfl (Nat.le_of_ble_eq_true rfl) ?_
  simp only [gm_s0, gm_s1]
  exact lp10
theorem kwX2_discover_2 : ∀ w ∈ wsX20, w ∈ wsX2_discover := by decide +kernel
theorem lkX2_discover_140 : Cond.fieldLink RX2 140 "SharedFibre" "quietAsked" "Z" ∈ wsX2_discover := by decide +kernel
set_option maxHeartbeats 4000000 in
set_option maxRecDepth 100000 in
/-- discover -/
theorem c_X2_discover (M : gm_M) : KC lyC yX2_discover wsX2_discover ({ frames := 0, cells := 0, slots := 0, locals := 0 }) (fun ad => [.ref (ad 2 0)]) M (fun _ => none) (gm_up M 2 8 0 1) := by
  refine KC.of_v (by decide) rfl rfl (fun _ => by simp) (fun _ => by simp [Value.category])  ?_
  intro X hC hR hX hE
  simp only [List.map_cons, List.map_nil, List.cons_append, List.nil_append, List.length_cons, List.length_nil, List.replicate, Nat.reduceAdd, Nat.reduceSub]
  refine go_aload_n hC dX2_discover_0 rfl ?_
  refine go_iconst (v := 1) hC dX2_discover_1 (by decide) ?_
  refine go_puti (ci := 2) hC 8 kwX2_discover_2 rfl tyX2 tyX2_ok nmX2 rfl (by decide) rfl lkX2_discover_140 (by first | decide | (show _ < 5; omega) | (show _ < 10; omega) | omega) rfl (by decide) (by decide) dX2_discover_2 ?_
  refine go_cast ?_ ?_ (hE _ _ dX2_discover_5)
  · first | rfl | (simp [*]; done) | (simp [*, gm_us, gm_un1, gm_un2]; done)
  · first | rfl | (simp [*]; done) | (simp [*, gm_us, gm_un1, gm_un2]; done)
end
section
/-! ===== the class: the fibre (5): the map ===== -/
abbrev nW (M : gm_M) (c : Nat) : Prop := M 1 1 (c / 2) = 2 ∧ ¬ M 0 6 c ≤ M 0 9 c ∧ ¬ M 0 8 c ≤ M 0 9 c
abbrev nL (M : gm_M) (c b : Nat) : Prop := ¬ M 0 10 b * M 0 7 c ≤ M 0 10 c * M 0 7 b
def ntgF (M : gm_M) : Nat → Option Nat
  | 0 => none
  | c + 1 => match ntgF M c with
    | none => if nW M c then some c else none
    | some b => if nW M c ∧ nL M c b then some c else some b
theorem ntg_A {M : gm_M} {c : Nat} (h : ¬ nW M c) : ntgF M (c + 1) = ntgF M c := by
  cases ho : ntgF M c with
  | none => simp only [ntgF, ho]; exact if_neg h
  | some b => simp only [ntgF, ho]; exact if_neg (fun q => h q.1)
theorem ntg_B {M : gm_M} {c : Nat} (ho : ntgF M c = none) (h : nW M c) : ntgF M (c + 1) = some c := by
  simp only [ntgF, ho]; exact if_pos h
theorem ntg_C {M : gm_M} {c b : Nat} (ho : ntgF M c = some b) (h : nW M c) (hl : nL M c b) : ntgF M (c + 1) = some c := by
  simp only [ntgF, ho]; exact if_pos ⟨h, hl⟩
theorem ntg_D {M : gm_M} {c b : Nat} (ho : ntgF M c = some b) (hl : ¬ nL M c b) : ntgF M (c + 1) = some b := by
  simp only [ntgF, ho]; exact if_neg (fun q => hl q.2)
theorem ntg_lt {M : gm_M} : ∀ {c b : Nat}, ntgF M c = some b → b < c
  | 0, b, h => by cases h
  | c + 1, b, h => by
    cases ho : ntgF M c with
    | none =>
      simp only [ntgF, ho] at h
      split at h
      · cases h; omega
      · cases h
    | some b' =>
      have h1 := ntg_lt ho
      simp only [ntgF, ho] at h
      split at h
      · cases h; omega
      · cases h; omega
theorem ntg_skip {M : gm_M} {j : Nat} (h : ¬ M 1 1 j = 2) : ntgF M (2 * (j + 1)) = ntgF M (2 * j) := by
  have e1 : ntgF M (2 * j + 1) = ntgF M (2 * j) := ntg_A (fun q => h (by have := q.1; rwa [show 2 * j / 2 = j by omega] at this))
  have e2 : ntgF M (2 * j + 1 + 1) = ntgF M (2 * j + 1) := ntg_A (fun q => h (by have := q.1; rwa [show (2 * j + 1) / 2 = j by omega] at this))
  exact e2.trans e1
theorem kwX2_nextToGive_1 : ∀ w ∈ wsX10, w ∈ wsX2_nextToGive := by decide +kernel
theorem kwX2_nextToGive_2 : ∀ w ∈ wsX20, w ∈ wsX2_nextToGive := by decide +kernel
theorem lkX2_nextToGive_11 : Cond.fieldLink RX2 11 "SharedFibre" "units" "[LSharedFibre$Unit;" ∈ wsX2_nextToGive := by decide +kernel
theorem lkX2_nextToGive_58 : Cond.fieldLink RX2 58 "SharedFibre$Unit" "state" "I" ∈ wsX2_nextToGive := by decide +kernel
theorem lkX2_nextToGive_240 : Cond.fieldLink RX2 240 "SharedFibre$Unit" "containers" "[LSharedFibre$Container;" ∈ wsX2_nextToGive := by decide +kernel
set_option maxHeartbeats 4000000 in
set_option maxRecDepth 100000 in
/-- nextToGive -/
theorem c_X2_nextToGive (M : gm_M) : KC lyC yX2_nextToGive wsX2_nextToGive ({ frames := 1, cells := 0, slots := 0, locals := 21 }) (fun ad => [.ref (ad 2 0)]) M (fun ad => some (ntV ad (ntgF M 10))) (M) := by
  refine KC.of_a (by decide) rfl rfl (fun _ => by simp) (fun _ => by simp [Value.category]) (rv := fun ad => ntV ad (ntgF M 10)) (fun ad => ntV_ok ad _) ?_
  intro X hC hR hX hE
  simp only [List.map_cons, List.map_nil, List.cons_append, List.nil_append, List.length_cons, List.length_nil, List.replicate, Nat.reduceAdd, Nat.reduceSub]
  have lp13 : (fun j : Nat => GO lyC X 0 0 13 [some (.ref (gm_ad X 2 0)), some (ntV (gm_ad X) (ntgF M (2 * j))), some (.ref (gm_ad X 3 0)), some (.int 5), some (.int (nI j)), none, none, none, none, none] [] M) 0 := by
    refine loopN (5) (fun j : Nat => GO lyC X 0 0 13 [some (.ref (gm_ad X 2 0)), some (ntV (gm_ad X) (ntgF M (2 * j))), some (.ref (gm_ad X 3 0)), some (.int 5), some (.int (nI j)), none, none, none, none, none] [] M) ?_ (fun j hj ih => ?_)
    · try dsimp only
      refine go_iload hC dX2_nextToGive_13 rfl ?_
      refine go_iload_n hC dX2_nextToGive_15 rfl ?_
      refine go_icmp_ge hC 99 dX2_nextToGive_16 (by decide) (fun h16 => ?_) (fun h16 => ?_)
      ·
        refine go_aload_nA hC (ntV_ok _ _) dX2_nextToGive_99 rfl ?_
        refine go_cast ?_ ?_ (hE _ _ dX2_nextToGive_100)
        · first | rfl | (simp [*]; done) | (simp [*, gm_us, gm_un1, gm_un2]; done)
        · first | rfl | (simp [*]; done) | (simp [*, gm_us, gm_un1, gm_un2]; done)
      ·
        exact absurd (show nI 5 ≤ nI 5 from nI_le (Nat.le_refl _) (by decide)) h16
    · try dsimp only at ih ⊢
      refine go_iload hC dX2_nextToGive_13 rfl ?_
      refine go_iload_n hC dX2_nextToGive_15 rfl ?_
      refine go_icmp_ge hC 99 dX2_nextToGive_16 (by decide) (fun h16 => ?_) (fun h16 => ?_)
      ·
        exact absurd h16 (show ¬ nI 5 ≤ nI j from nI_ge hj (by decide))
      ·
        refine go_aload_n hC dX2_nextToGive_19 rfl ?_
        refine go_iload hC dX2_nextToGive_20 rfl ?_
        refine go_aald hC rfl (fun _ => rfl) (by first | decide | (show _ < 5; omega) | (show _ < 10; omega) | omega) (gm_in rfl (by omega) (by decide)) (gm_cu rfl (by omega)) dX2_nextToGive_22 ?_
        refine go_astore hC dX2_nextToGive_23 (Nat.le_of_ble_eq_true rfl) ?_
        simp only [gm_s0, gm_s1]
        refine go_aload hC dX2_nextToGive_25 rfl ?_
        refine go_geti (ci := 1) hC 1 kwX2_nextToGive_1 rfl rfl (by decide) rfl lkX2_nextToGive_58 (by first | decide | (show _ < 5; omega) | (show _ < 10; omega) | omega) dX2_nextToGive_27 ?_
        refine go_iconst (v := 2) hC dX2_nextToGive_30 (by decide) ?_
        refine go_icmp_ne hC 93 dX2_nextToGive_31 (by decide) (fun h31 => ?_) (fun h31 => ?_)
        ·
          refine go_iinc (v := 1) hC dX2_nextToGive_93 rfl (by decide) ?_
          simp only [gm_s0, gm_s1]
          refine go_goto hC 13 dX2_nextToGive_96 (by decide) ?_
          rw [nI_1]
          first | (rw [ntg_skip h31] at ih; refine go_sub ih ?_; (repeat (first | exact gm_le_nil | refine gm_le_c ?_ | refine gm_le_n ?_)); done) | (refine go_sub ih ?_; (repeat (first | exact gm_le_nil | refine gm_le_c ?_ | refine gm_le_n ?_)); done)
        ·
          refine go_aload hC dX2_nextToGive_34 rfl ?_
          refine go_getr (ci := 1) hC 0 kwX2_nextToGive_1 rfl rfl (by decide) rfl lkX2_nextToGive_240 (by first | decide | (show _ < 5; omega) | (show _ < 10; omega) | omega) dX2_nextToGive_36 ?_
          refine go_astore hC dX2_nextToGive_39 (Nat.le_of_ble_eq_true rfl) ?_
          simp only [gm_s0, gm_s1]
          refine go_aload hC dX2_nextToGive_41 rfl ?_
          refine go_alenr (v := 2) hC rfl (fun _ => rfl) (by first | decide | (show _ < 5; omega) | (show _ < 10; omega) | omega) (by decide) dX2_nextToGive_43 ?_
          refine go_istore hC dX2_nextToGive_44 (Nat.le_of_ble_eq_true rfl) ?_
          simp only [gm_s0, gm_s1]
          refine go_iconst (v := 0) hC dX2_nextToGive_46 (by decide) ?_
          refine go_istore hC dX2_nextToGive_47 (Nat.le_of_ble_eq_true rfl) ?_
          simp only [gm_s0, gm_s1]
          have lp49 : (fun i : Nat => GO lyC X 0 0 49 [some (.ref (gm_ad X 2 0)), some (ntV (gm_ad X) (ntgF M (2 * j + i))), some (.ref (gm_ad X 3 0)), some (.int 5), some (.int (nI j)), some (.ref (gm_ad X 1 j)), some (.ref (gm_ad X 9 j)), some (.int 2), some (.int (nI i)), none] [] M) 0 := by
            refine loopN (2) (fun i : Nat => GO lyC X 0 0 49 [some (.ref (gm_ad X 2 0)), some (ntV (gm_ad X) (ntgF M (2 * j + i))), some (.ref (gm_ad X 3 0)), some (.int 5), some (.int (nI j)), some (.ref (gm_ad X 1 j)), some (.ref (gm_ad X 9 j)), some (.int 2), some (.int (nI i)), none] [] M) ?_ (fun i hi ihi => ?_)
            · try dsimp only
              refine go_iload hC dX2_nextToGive_49 rfl ?_
              refine go_iload hC dX2_nextToGive_51 rfl ?_
              refine go_icmp_ge hC 93 dX2_nextToGive_53 (by decide) (fun h53 => ?_) (fun h53 => ?_)
              ·
                refine go_iinc (v := 1) hC dX2_nextToGive_93 rfl (by decide) ?_
                simp only [gm_s0, gm_s1]
                refine go_goto hC 13 dX2_nextToGive_96 (by decide) ?_
                rw [nI_1]
                first | (rw [ntg_skip h31] at ih; refine go_sub ih ?_; (repeat (first | exact gm_le_nil | refine gm_le_c ?_ | refine gm_le_n ?_)); done) | (refine go_sub ih ?_; (repeat (first | exact gm_le_nil | refine gm_le_c ?_ | refine gm_le_n ?_)); done)
              ·
                exact absurd (show nI 2 ≤ nI 2 from nI_le (Nat.le_refl _) (by decide)) h53
            · try dsimp only at ihi ⊢
              refine go_iload hC dX2_nextToGive_49 rfl ?_
              refine go_iload hC dX2_nextToGive_51 rfl ?_
              refine go_icmp_ge hC 93 dX2_nextToGive_53 (by decide) (fun h53 => ?_) (fun h53 => ?_)
              ·
                exact absurd h53 (show ¬ nI 2 ≤ nI i from nI_ge hi (by decide))
              ·
                refine go_aload hC dX2_nextToGive_56 rfl ?_
                refine go_iload hC dX2_nextToGive_58 rfl ?_
                refine go_aald hC rfl (fun _ => rfl) (by first | decide | (show _ < 5; omega) | (show _ < 10; omega) | omega) (gm_in rfl (by omega) (by decide)) (gm_cl5 rfl (by omega)) dX2_nextToGive_60 ?_
                refine go_astore hC dX2_nextToGive_61 (Nat.le_of_ble_eq_true rfl) ?_
                simp only [gm_s0, gm_s1]
                refine go_aload hC dX2_nextToGive_63 rfl ?_
                refine go_callV (n := 0) (k0 := 0) (n0 := 2 * j + i) hC hX (c_X0_wants _ _ (by omega)) gX2_nextToGive_X0_wants rfl (by decide +kernel) ⟨rfl, rfl⟩ (by rw [hR]; exact ⟨by decide, by decide⟩) (by rw [hR]; exact ⟨by decide, by decide⟩) rfl rfl rfl (by first | decide | (show _ < 5; omega) | (show _ < 10; omega) | omega) rfl rfl rfl (Nat.le_of_ble_eq_true rfl) dX2_nextToGive_65 ?_
                simp only [gm_r0, gm_r1]
                refine go_if_eq hC 87 dX2_nextToGive_68 (by decide) (fun h68 => ?_) (fun h68 => ?_)
                ·
                  have e49 : ntgF M (2 * j + (i + 1)) = ntgF M (2 * j + i) := ntg_A (fun q => absurd (h68.symm.trans (if_pos q.2)) (by decide))
                  refine go_iinc (v := 1) hC dX2_nextToGive_87 rfl (by decide) ?_
                  simp only [gm_s0, gm_s1]
                  refine go_goto hC 49 dX2_nextToGive_90 (by decide) ?_
                  rw [nI_1]
                  rw [e49] at ihi
                  refine go_sub ihi ?_
                  repeat (first | exact gm_le_nil | refine gm_le_c ?_ | refine gm_le_n ?_)
                ·
                  have hnw : nW M (2 * j + i) := ⟨by rw [show (2 * j + i) / 2 = j by omega]; exact h31, Classical.byContradiction (fun q => h68 (if_neg q))⟩
                  refine go_aload_nA hC (ntV_ok _ _) dX2_nextToGive_71 rfl ?_
                  refine go_ifnull hC 84 dX2_nextToGive_72 (by decide) (fun ho => ?_) (fun b ho => ?_)
                  ·
                    have e49 : ntgF M (2 * j + (i + 1)) = some (2 * j + i) := ntg_B ho hnw
                    refine go_aload hC dX2_nextToGive_84 rfl ?_
                    refine go_astore_n hC 1 dX2_nextToGive_86 rfl (Nat.le_of_ble_eq_true rfl) ?_
                    simp only [gm_s0, gm_s1]
                    refine go_iinc (v := 1) hC dX2_nextToGive_87 rfl (by decide) ?_
                    simp only [gm_s0, gm_s1]
                    refine go_goto hC 49 dX2_nextToGive_90 (by decide) ?_
                    rw [nI_1]
                    rw [e49] at ihi
                    refine go_sub ihi ?_
                    repeat (first | exact gm_le_nil | refine gm_le_c ?_ | refine gm_le_n ?_)
                  ·
                    have hb9 := ntg_lt ho
                    refine go_aload hC dX2_nextToGive_75 rfl ?_
                    refine go_aload_nA hC (ntV_ok _ _) dX2_nextToGive_77 rfl ?_
                    simp only [ho, ntV]
                    refine go_callV (n := 1) (k0 := 0) (n0 := 2 * j + i) hC hX (c_X0_hasLessSpareThan _ _ b (by omega) (by omega)) gX2_nextToGive_X0_hasLessSpareThan rfl (by decide +kernel) ⟨rfl, rfl⟩ (by rw [hR]; exact ⟨by decide, by decide⟩) (by rw [hR]; exact ⟨by decide, by decide⟩) rfl rfl rfl (by first | decide | (show _ < 5; omega) | (show _ < 10; omega) | omega) rfl rfl rfl (Nat.le_of_ble_eq_true rfl) dX2_nextToGive_78 ?_
                    simp only [gm_r0, gm_r1]
                    refine go_if_eq hC 87 dX2_nextToGive_81 (by decide) (fun h81 => ?_) (fun h81 => ?_)
                    ·
                      have e49 : ntgF M (2 * j + (i + 1)) = some b := ntg_D ho (fun q => absurd (h81.symm.trans (if_pos q)) (by decide))
                      refine go_iinc (v := 1) hC dX2_nextToGive_87 rfl (by decide) ?_
                      simp only [gm_s0, gm_s1]
                      refine go_goto hC 49 dX2_nextToGive_90 (by decide) ?_
                      rw [nI_1]
                      rw [e49] at ihi
                      refine go_sub ihi ?_
                      repeat (first | exact gm_le_nil | refine gm_le_c ?_ | refine gm_le_n ?_)
                    ·
                      have e49 : ntgF M (2 * j + (i + 1)) = some (2 * j + i) := ntg_C ho hnw (Classical.byContradiction (fun q => h81 (if_neg q)))
                      refine go_aload hC dX2_nextToGive_84 rfl ?_
                      refine go_astore_n hC 1 dX2_nextToGive_86 rfl (Nat.le_of_ble_eq_true rfl) ?_
                      simp only [gm_s0, gm_s1]
                      refine go_iinc (v := 1) hC dX2_nextToGive_87 rfl (by decide) ?_
                      simp only [gm_s0, gm_s1]
                      refine go_goto hC 49 dX2_nextToGive_90 (by decide) ?_
                      rw [nI_1]
                      rw [e49] at ihi
                      refine go_sub ihi ?_
                      repeat (first | exact gm_le_nil | refine gm_le_c ?_ | refine gm_le_n ?_)
          try dsimp only at lp49
          exact lp49
  try dsimp only at lp13
  refine go_null hC dX2_nextToGive_0 ?_
  refine go_astore_nA hC (Or.inl rfl) 1 dX2_nextToGive_1 rfl (Nat.le_of_ble_eq_true rfl) ?_
  simp only [gm_s0, gm_s1]
  refine go_aload_n hC dX2_nextToGive_2 rfl ?_
  refine go_getr (ci := 2) hC 0 kwX2_nextToGive_2 rfl rfl (by decide) rfl lkX2_nextToGive_11 (by first | decide | (show _ < 5; omega) | (show _ < 10; omega) | omega) dX2_nextToGive_3 ?_
  refine go_astore_n hC 2 dX2_nextToGive_6 rfl (Nat.le_of_ble_eq_true rfl) ?_
  simp only [gm_s0, gm_s1]
  refine go_aload_n hC dX2_nextToGive_7 rfl ?_
  refine go_alenr (v := 5) hC rfl (fun _ => rfl) (by first | decide | (show _ < 5; omega) | (show _ < 10; omega) | omega) (by decide) dX2_nextToGive_8 ?_
  refine go_istore_n hC 3 dX2_nextToGive_9 rfl (Nat.le_of_ble_eq_true rfl) ?_
  simp only [gm_s0, gm_s1]
  refine go_iconst (v := 0) hC dX2_nextToGive_10 (by decide) ?_
  refine go_istore hC dX2_nextToGive_11 (Nat.le_of_ble_eq_true rfl) ?_
  simp only [gm_s0, gm_s1]
  exact lp13
def gsF : Nat → gm_M → gm_M × Int32
  | 0, M => (M, 0)
  | d + 1, M => match ntgF M 10 with
    | none => (M, nI (d + 1))
    | some c => gsF d (gm_up (gm_up M 0 9 c (M 0 9 c + 1)) 0 10 c (M 0 10 c + 1))
theorem gs_n {d : Nat} {M : gm_M} (ho : ntgF M 10 = none) : gsF (d + 1) M = (M, nI (d + 1)) := by simp only [gsF, ho]
theorem gs_s {d c : Nat} {M : gm_M} (ho : ntgF M 10 = some c) : gsF (d + 1) M = gsF d (gm_up (gm_up M 0 9 c (M 0 9 c + 1)) 0 10 c (M 0 10 c + 1)) := by simp only [gsF, ho]
theorem kwX2_giveSpare_0 : ∀ w ∈ wsX00, w ∈ wsX2_giveSpare := by decide +kernel
theorem lkX2_giveSpare_212 : Cond.fieldLink RX2 212 "SharedFibre$Container" "given" "I" ∈ wsX2_giveSpare := by decide +kernel
theorem lkX2_giveSpare_264 : Cond.fieldLink RX2 264 "SharedFibre$Container" "spare" "I" ∈ wsX2_giveSpare := by decide +kernel
set_option maxHeartbeats 4000000 in
set_option maxRecDepth 100000 in
/-- giveSpare -/
theorem c_X2_giveSpare (M : gm_M) (b : Nat) (hb : b < 2 ^ 31) : KC lyC yX2_giveSpare wsX2_giveSpare ({ frames := 2, cells := 0, slots := 0, locals := 50 }) (fun ad => [.ref (ad 2 0), .int (nI b)]) M (fun _ => some (.int (gsF b M).2)) ((gsF b M).1) := by
  refine KC.of_i (by decide) rfl rfl (fun _ => by simp) (fun _ => by simp [Value.category])  ?_
  intro X hC hR hX hE
  simp only [List.map_cons, List.map_nil, List.cons_append, List.nil_append, List.length_cons, List.length_nil, List.replicate, Nat.reduceAdd, Nat.reduceSub]
  have lp2 : (fun j : Nat => ∀ M2 : gm_M, gsF (b - j) M2 = gsF b M → GO lyC X 0 0 2 [some (.ref (gm_ad X 2 0)), some (.int (nI b)), some (.int (nI (b - j))), none] [] M2) 0 := by
    refine loopN (b) (fun j : Nat => ∀ M2 : gm_M, gsF (b - j) M2 = gsF b M → GO lyC X 0 0 2 [some (.ref (gm_ad X 2 0)), some (.int (nI b)), some (.int (nI (b - j))), none] [] M2) ?_ (fun j hj ih => ?_)
    · try dsimp only
      intro M2 hg
      refine go_iload_n hC dX2_giveSpare_2 rfl ?_
      refine go_if_le hC 43 dX2_giveSpare_3 (by decide) (fun h3 => ?_) (fun h3 => ?_)
      ·
        refine go_iconst (v := 0) hC dX2_giveSpare_43 (by decide) ?_
        rw [Nat.sub_self] at hg
        rw [← hg] at hE
        exact hE _ _ dX2_giveSpare_44
      ·
        exact absurd (show nI (b - b) ≤ 0 by rw [Nat.sub_self]; decide) h3
    · try dsimp only at ih ⊢
      intro M2 hg
      obtain ⟨d9, hd9⟩ : ∃ d9, b - j = d9 + 1 := ⟨b - j - 1, by omega⟩
      refine go_iload_n hC dX2_giveSpare_2 rfl ?_
      refine go_if_le hC 43 dX2_giveSpare_3 (by decide) (fun h3 => ?_) (fun h3 => ?_)
      ·
        exact absurd h3 (by rw [hd9]; exact nI_nle (by omega) (by omega))
      ·
        refine go_aload_n hC dX2_giveSpare_6 rfl ?_
        refine go_callV (n := 0) (k0 := 2) (n0 := 0) hC hX (c_X2_nextToGive _) gX2_giveSpare_X2_nextToGive rfl (by decide +kernel) ⟨rfl, rfl⟩ (by rw [hR]; exact ⟨by decide, by decide⟩) (by rw [hR]; exact ⟨by decide, by decide⟩) rfl rfl rfl (by first | decide | (show _ < 5; omega) | (show _ < 10; omega) | omega) rfl rfl rfl (Nat.le_of_ble_eq_true rfl) dX2_giveSpare_7 ?_
        simp only [gm_r0, gm_r1]
        refine go_astore_nA hC (ntV_ok _ _) 3 dX2_giveSpare_10 rfl (Nat.le_of_ble_eq_true rfl) ?_
        simp only [gm_s0, gm_s1]
        refine go_aload_nA hC (ntV_ok _ _) dX2_giveSpare_11 rfl ?_
        refine go_ifnonnull hC 17 dX2_giveSpare_12 (by decide) (fun c ho => ?_) (fun ho => ?_)
        ·
          have hc9 := ntg_lt ho
          simp only [ho, ntV]
          refine go_aload_n hC dX2_giveSpare_17 rfl ?_
          refine go_dup hC dX2_giveSpare_18 rfl ?_
          refine go_geti (ci := 0) hC 9 kwX2_giveSpare_0 rfl rfl (by decide) rfl lkX2_giveSpare_212 (by first | decide | (show _ < 5; omega) | (show _ < 10; omega) | omega) dX2_giveSpare_19 ?_
          refine go_iconst (v := 1) hC dX2_giveSpare_22 (by decide) ?_
          refine go_iadd hC dX2_giveSpare_23 ?_
          refine go_puti (ci := 0) hC 9 kwX2_giveSpare_0 rfl tyX0 tyX0_ok nmX0 rfl (by decide) rfl lkX2_giveSpare_212 (by first | decide | (show _ < 5; omega) | (show _ < 10; omega) | omega) rfl rfl rfl dX2_giveSpare_24 ?_
          refine go_aload_n hC dX2_giveSpare_27 rfl ?_
          refine go_dup hC dX2_giveSpare_28 rfl ?_
          refine go_geti (ci := 0) hC 10 kwX2_giveSpare_0 rfl rfl (by decide) rfl lkX2_giveSpare_264 (by first | decide | (show _ < 5; omega) | (show _ < 10; omega) | omega) dX2_giveSpare_29 ?_
          refine go_iconst (v := 1) hC dX2_giveSpare_32 (by decide) ?_
          refine go_iadd hC dX2_giveSpare_33 ?_
          refine go_puti (ci := 0) hC 10 kwX2_giveSpare_0 rfl tyX0 tyX0_ok nmX0 rfl (by decide) rfl lkX2_giveSpare_264 (by first | decide | (show _ < 5; omega) | (show _ < 10; omega) | omega) rfl rfl rfl dX2_giveSpare_34 ?_
          refine go_iinc (v := (-1)) hC dX2_giveSpare_37 rfl (by decide) ?_
          simp only [gm_s0, gm_s1]
          refine go_goto hC 2 dX2_giveSpare_40 (by decide) ?_
          have ih2 := ih _ (show gsF (b - (j + 1)) (gm_up (gm_up M2 0 9 c (M2 0 9 c + 1)) 0 10 c (gm_up M2 0 9 c (M2 0 9 c + 1) 0 10 c + 1)) = _ by rw [gm_un2 (by decide), ← hg, hd9, show b - (j + 1) = d9 by omega, gs_s ho])
          rw [show nI (b - j) + (-1) = nI (b - (j + 1)) by rw [hd9, show b - (j + 1) = d9 by omega]; exact pk_m1 d9]
          refine go_sub ih2 ?_
          repeat (first | exact gm_le_nil | refine gm_le_c ?_ | refine gm_le_n ?_)

        ·
          refine go_iload_n hC dX2_giveSpare_15 rfl ?_
          rw [hd9, gs_n ho] at hg
          rw [← hg] at hE
          rw [hd9]
          exact hE _ _ dX2_giveSpare_16
  try dsimp only at lp2
  refine go_iload_n hC dX2_giveSpare_0 rfl ?_
  refine go_istore_n hC 2 dX2_giveSpare_1 rfl (Nat.le_of_ble_eq_true rfl) ?_
  simp only [gm_s0, gm_s1]
  exact lp2 M rfl
def mmI (j : Nat) (wv : Int32) : Nat → gm_M → gm_M := fun i M => cGive M (2 * j + i) wv
def mmU : Nat → gm_M → gm_M := fun j M => iter (mmI j (if M 1 1 j = 2 then 1 else 0)) 2 M
def mmLi (M : gm_M) (j : Nat) (wv l0 : Int32) : Nat → Int32
  | 0 => l0
  | i + 1 => mmLi M j wv l0 i - (iter (mmI j wv) (i + 1) M) 0 9 (2 * j + i)
def mmL (M : gm_M) : Nat → Int32
  | 0 => 60
  | j + 1 => mmLi (iter mmU j M) j (if iter mmU j M 1 1 j = 2 then 1 else 0) (if iter mmU j M 1 1 j = 2 then mmL M j + (-1) else mmL M j) 2
theorem mmL_s (M : gm_M) (j : Nat) : mmL M (j + 1) = mmLi (iter mmU j M) j (if iter mmU j M 1 1 j = 2 then 1 else 0) (if iter mmU j M 1 1 j = 2 then mmL M j + (-1) else mmL M j) 2 := rfl
theorem mmL_n {M : gm_M} {j : Nat} {b : Int32} (hb : b = if iter mmU j M 1 1 j = 2 then 1 else 0) (hc : ¬ iter mmU j M 1 1 j = 2) : mmL M (j + 1) = mmLi (iter mmU j M) j b (mmL M j) 2 := by
  rw [mmL_s, ← hb, if_neg hc]
theorem mmL_y {M : gm_M} {j : Nat} {b : Int32} (hb : b = if iter mmU j M 1 1 j = 2 then 1 else 0) (hc : iter mmU j M 1 1 j = 2) : mmL M (j + 1) = mmLi (iter mmU j M) j b (mmL M j + (-1)) 2 := by
  rw [mmL_s, ← hb, if_pos hc]
theorem mmU_s {M : gm_M} {j : Nat} {b : Int32} (hb : b = if iter mmU j M 1 1 j = 2 then 1 else 0) : iter (mmI j b) 2 (iter mmU j M) = iter mmU (j + 1) M := by
  rw [iter_s mmU j, hb]
  rfl
def mmF (M : gm_M) (b : Nat) : gm_M := gm_up (gsF b (iter mmU 5 M)).1 2 14 0 (gsF b (iter mmU 5 M)).2
theorem kwX2_makeMap_0 : ∀ w ∈ wsX00, w ∈ wsX2_makeMap := by decide +kernel
theorem kwX2_makeMap_1 : ∀ w ∈ wsX10, w ∈ wsX2_makeMap := by decide +kernel
theorem kwX2_makeMap_2 : ∀ w ∈ wsX20, w ∈ wsX2_makeMap := by decide +kernel
theorem lkX2_makeMap_11 : Cond.fieldLink RX2 11 "SharedFibre" "units" "[LSharedFibre$Unit;" ∈ wsX2_makeMap := by decide +kernel
theorem lkX2_makeMap_58 : Cond.fieldLink RX2 58 "SharedFibre$Unit" "state" "I" ∈ wsX2_makeMap := by decide +kernel
theorem lkX2_makeMap_212 : Cond.fieldLink RX2 212 "SharedFibre$Container" "given" "I" ∈ wsX2_makeMap := by decide +kernel
theorem lkX2_makeMap_226 : Cond.fieldLink RX2 226 "SharedFibre" "notGiven" "I" ∈ wsX2_makeMap := by decide +kernel
theorem lkX2_makeMap_240 : Cond.fieldLink RX2 240 "SharedFibre$Unit" "containers" "[LSharedFibre$Container;" ∈ wsX2_makeMap := by decide +kernel
set_option maxHeartbeats 4000000 in
set_option maxRecDepth 100000 in
/-- makeMap -/
theorem c_X2_makeMap (M : gm_M) (b : Nat) (hb : mmL M 5 = nI b) (hb31 : b < 2 ^ 31) : KC lyC yX2_makeMap wsX2_makeMap ({ frames := 3, cells := 0, slots := 0, locals := 73 }) (fun ad => [.ref (ad 2 0)]) M (fun _ => none) (mmF M b) := by
  refine KC.of_v (by decide) rfl rfl (fun _ => by simp) (fun _ => by simp [Value.category])  ?_
  intro X hC hR hX hE
  simp only [List.map_cons, List.map_nil, List.cons_append, List.nil_append, List.length_cons, List.length_nil, List.replicate, Nat.reduceAdd, Nat.reduceSub]
  have lp14 : (fun j : Nat => GO lyC X 0 0 14 [some (.ref (gm_ad X 2 0)), some (.int (mmL M j)), some (.ref (gm_ad X 3 0)), some (.int 5), some (.int (nI j)), none, none, none, none, none, none] [] (iter mmU j M)) 0 := by
    refine loopN (5) (fun j : Nat => GO lyC X 0 0 14 [some (.ref (gm_ad X 2 0)), some (.int (mmL M j)), some (.ref (gm_ad X 3 0)), some (.int 5), some (.int (nI j)), none, none, none, none, none, none] [] (iter mmU j M)) ?_ (fun j hj ih => ?_)
    · try dsimp only
      refine go_iload hC dX2_makeMap_14 rfl ?_
      refine go_iload_n hC dX2_makeMap_16 rfl ?_
      refine go_icmp_ge hC 106 dX2_makeMap_17 (by decide) (fun h17 => ?_) (fun h17 => ?_)
      ·
        refine go_aload_n hC dX2_makeMap_106 rfl ?_
        refine go_aload_n hC dX2_makeMap_107 rfl ?_
        refine go_iload_n hC dX2_makeMap_108 rfl ?_
        rw [hb]
        refine go_callV (n := 1) (k0 := 2) (n0 := 0) hC hX (c_X2_giveSpare _ b hb31) gX2_makeMap_X2_giveSpare rfl (by decide +kernel) ⟨rfl, rfl⟩ (by rw [hR]; exact ⟨by decide, by decide⟩) (by rw [hR]; exact ⟨by decide, by decide⟩) rfl rfl rfl (by first | decide | (show _ < 5; omega) | (show _ < 10; omega) | omega) rfl rfl rfl (Nat.le_of_ble_eq_true rfl) dX2_makeMap_109 ?_
        simp only [gm_r0, gm_r1]
        refine go_puti (ci := 2) hC 14 kwX2_makeMap_2 rfl tyX2 tyX2_ok nmX2 rfl (by decide) rfl lkX2_makeMap_226 (by first | decide | (show _ < 5; omega) | (show _ < 10; omega) | omega) rfl rfl rfl dX2_makeMap_112 ?_
        refine go_cast ?_ ?_ (hE _ _ dX2_makeMap_115)
        · first | rfl | (simp [*]; done) | (simp [*, gm_us, gm_un1, gm_un2]; done)
        · first | rfl | (simp [*]; done) | (simp [*, gm_us, gm_un1, gm_un2]; done)
      ·
        exact absurd (show nI 5 ≤ nI 5 from nI_le (Nat.le_refl _) (by decide)) h17
    · try dsimp only at ih ⊢
      refine go_iload hC dX2_makeMap_14 rfl ?_
      refine go_iload_n hC dX2_makeMap_16 rfl ?_
      refine go_icmp_ge hC 106 dX2_makeMap_17 (by decide) (fun h17 => ?_) (fun h17 => ?_)
      ·
        exact absurd h17 (show ¬ nI 5 ≤ nI j from nI_ge hj (by decide))
      ·
        refine go_aload_n hC dX2_makeMap_20 rfl ?_
        refine go_iload hC dX2_makeMap_21 rfl ?_
        refine go_aald hC rfl (fun _ => rfl) (by first | decide | (show _ < 5; omega) | (show _ < 10; omega) | omega) (gm_in rfl (by omega) (by decide)) (gm_cu rfl (by omega)) dX2_makeMap_23 ?_
        refine go_astore hC dX2_makeMap_24 (Nat.le_of_ble_eq_true rfl) ?_
        simp only [gm_s0, gm_s1]
        refine go_joinB (jpc := 40) (iter mmU j M 1 1 j = 2) ?_ (fun hj40 => ?_)
        · intro b40 hb40
          refine go_istore hC dX2_makeMap_40 (Nat.le_of_ble_eq_true rfl) ?_
          simp only [gm_s0, gm_s1]
          refine go_iload hC dX2_makeMap_42 rfl ?_
          refine go_if_eq hC 50 dX2_makeMap_44 (by decide) (fun h44 => ?_) (fun h44 => ?_)
          ·
            have hc : ¬ iter mmU j M 1 1 j = 2 := fun q => absurd (h44.symm.trans (hb40.trans (if_pos q))) (by decide)
            have e14 : mmL M (j + 1) = mmLi (iter mmU j M) j b40 (mmL M j) 2 := mmL_n hb40 hc
            refine go_aload hC dX2_makeMap_50 rfl ?_
            refine go_getr (ci := 1) hC 0 kwX2_makeMap_1 rfl rfl (by decide) rfl lkX2_makeMap_240 (by first | decide | (show _ < 5; omega) | (show _ < 10; omega) | omega) dX2_makeMap_52 ?_
            refine go_astore hC dX2_makeMap_55 (Nat.le_of_ble_eq_true rfl) ?_
            simp only [gm_s0, gm_s1]
            refine go_aload hC dX2_makeMap_57 rfl ?_
            refine go_alenr (v := 2) hC rfl (fun _ => rfl) (by first | decide | (show _ < 5; omega) | (show _ < 10; omega) | omega) (by decide) dX2_makeMap_59 ?_
            refine go_istore hC dX2_makeMap_60 (Nat.le_of_ble_eq_true rfl) ?_
            simp only [gm_s0, gm_s1]
            refine go_iconst (v := 0) hC dX2_makeMap_62 (by decide) ?_
            refine go_istore hC dX2_makeMap_63 (Nat.le_of_ble_eq_true rfl) ?_
            simp only [gm_s0, gm_s1]
            have lp65 : (fun i : Nat => GO lyC X 0 0 65 [some (.ref (gm_ad X 2 0)), some (.int (mmLi (iter mmU j M) j b40 (mmL M j) i)), some (.ref (gm_ad X 3 0)), some (.int 5), some (.int (nI j)), some (.ref (gm_ad X 1 j)), some (.int b40), some (.ref (gm_ad X 9 j)), some (.int 2), some (.int (nI i)), none] [] (iter (mmI j b40) i (iter mmU j M))) 0 := by
              refine loopN (2) (fun i : Nat => GO lyC X 0 0 65 [some (.ref (gm_ad X 2 0)), some (.int (mmLi (iter mmU j M) j b40 (mmL M j) i)), some (.ref (gm_ad X 3 0)), some (.int 5), some (.int (nI j)), some (.ref (gm_ad X 1 j)), some (.int b40), some (.ref (gm_ad X 9 j)), some (.int 2), some (.int (nI i)), none] [] (iter (mmI j b40) i (iter mmU j M))) ?_ (fun i hi ihi => ?_)
              · try dsimp only
                refine go_iload hC dX2_makeMap_65 rfl ?_
                refine go_iload hC dX2_makeMap_67 rfl ?_
                refine go_icmp_ge hC 100 dX2_makeMap_69 (by decide) (fun h69 => ?_) (fun h69 => ?_)
                ·
                  refine go_iinc (v := 1) hC dX2_makeMap_100 rfl (by decide) ?_
                  simp only [gm_s0, gm_s1]
                  refine go_goto hC 14 dX2_makeMap_103 (by decide) ?_
                  rw [nI_1]
                  rw [e14] at ih
                  refine go_sub (go_mem ?_ ih) ?_
                  · exact mmU_s hb40
                  repeat (first | exact gm_le_nil | refine gm_le_c ?_ | refine gm_le_n ?_)
                ·
                  exact absurd (show nI 2 ≤ nI 2 from nI_le (Nat.le_refl _) (by decide)) h69
              · try dsimp only at ihi ⊢
                refine go_iload hC dX2_makeMap_65 rfl ?_
                refine go_iload hC dX2_makeMap_67 rfl ?_
                refine go_icmp_ge hC 100 dX2_makeMap_69 (by decide) (fun h69 => ?_) (fun h69 => ?_)
                ·
                  exact absurd h69 (show ¬ nI 2 ≤ nI i from nI_ge hi (by decide))
                ·
                  refine go_aload hC dX2_makeMap_72 rfl ?_
                  refine go_iload hC dX2_makeMap_74 rfl ?_
                  refine go_aald hC rfl (fun _ => rfl) (by first | decide | (show _ < 5; omega) | (show _ < 10; omega) | omega) (gm_in rfl (by omega) (by decide)) (gm_cl5 rfl (by omega)) dX2_makeMap_76 ?_
                  refine go_astore hC dX2_makeMap_77 (Nat.le_of_ble_eq_true rfl) ?_
                  simp only [gm_s0, gm_s1]
                  refine go_aload hC dX2_makeMap_79 rfl ?_
                  refine go_iload hC dX2_makeMap_81 rfl ?_
                  refine go_callV (n := 1) (k0 := 0) (n0 := 2 * j + i) hC hX (c_X0_giveContracted _ _ (by omega) _) gX2_makeMap_X0_giveContracted rfl (by decide +kernel) ⟨rfl, rfl⟩ (by rw [hR]; exact ⟨by decide, by decide⟩) (by rw [hR]; exact ⟨by decide, by decide⟩) rfl rfl rfl (by first | decide | (show _ < 5; omega) | (show _ < 10; omega) | omega) rfl rfl rfl (Nat.le_of_ble_eq_true rfl) dX2_makeMap_83 ?_
                  simp only [gm_r0, gm_r1]
                  refine go_iload_n hC dX2_makeMap_86 rfl ?_
                  refine go_aload hC dX2_makeMap_87 rfl ?_
                  refine go_geti (ci := 0) hC 9 kwX2_makeMap_0 rfl rfl (by decide) rfl lkX2_makeMap_212 (by first | decide | (show _ < 5; omega) | (show _ < 10; omega) | omega) dX2_makeMap_89 ?_
                  refine go_isub hC dX2_makeMap_92 ?_
                  refine go_istore_n hC 1 dX2_makeMap_93 rfl (Nat.le_of_ble_eq_true rfl) ?_
                  simp only [gm_s0, gm_s1]
                  refine go_iinc (v := 1) hC dX2_makeMap_94 rfl (by decide) ?_
                  simp only [gm_s0, gm_s1]
                  refine go_goto hC 65 dX2_makeMap_97 (by decide) ?_
                  rw [nI_1]
                  refine go_sub ihi ?_
                  repeat (first | exact gm_le_nil | refine gm_le_c ?_ | refine gm_le_n ?_)
            try dsimp only at lp65
            exact lp65
          ·
            have hc : iter mmU j M 1 1 j = 2 := Classical.byContradiction (fun q => h44 (hb40.trans (if_neg q)))
            have e14 : mmL M (j + 1) = mmLi (iter mmU j M) j b40 (mmL M j + (-1)) 2 := mmL_y hb40 hc
            refine go_iinc (v := (-1)) hC dX2_makeMap_47 rfl (by decide) ?_
            simp only [gm_s0, gm_s1]
            refine go_aload hC dX2_makeMap_50 rfl ?_
            refine go_getr (ci := 1) hC 0 kwX2_makeMap_1 rfl rfl (by decide) rfl lkX2_makeMap_240 (by first | decide | (show _ < 5; omega) | (show _ < 10; omega) | omega) dX2_makeMap_52 ?_
            refine go_astore hC dX2_makeMap_55 (Nat.le_of_ble_eq_true rfl) ?_
            simp only [gm_s0, gm_s1]
            refine go_aload hC dX2_makeMap_57 rfl ?_
            refine go_alenr (v := 2) hC rfl (fun _ => rfl) (by first | decide | (show _ < 5; omega) | (show _ < 10; omega) | omega) (by decide) dX2_makeMap_59 ?_
            refine go_istore hC dX2_makeMap_60 (Nat.le_of_ble_eq_true rfl) ?_
            simp only [gm_s0, gm_s1]
            refine go_iconst (v := 0) hC dX2_makeMap_62 (by decide) ?_
            refine go_istore hC dX2_makeMap_63 (Nat.le_of_ble_eq_true rfl) ?_
            simp only [gm_s0, gm_s1]
            have lp65 : (fun i : Nat => GO lyC X 0 0 65 [some (.ref (gm_ad X 2 0)), some (.int (mmLi (iter mmU j M) j b40 (mmL M j + (-1)) i)), some (.ref (gm_ad X 3 0)), some (.int 5), some (.int (nI j)), some (.ref (gm_ad X 1 j)), some (.int b40), some (.ref (gm_ad X 9 j)), some (.int 2), some (.int (nI i)), none] [] (iter (mmI j b40) i (iter mmU j M))) 0 := by
              refine loopN (2) (fun i : Nat => GO lyC X 0 0 65 [some (.ref (gm_ad X 2 0)), some (.int (mmLi (iter mmU j M) j b40 (mmL M j + (-1)) i)), some (.ref (gm_ad X 3 0)), some (.int 5), some (.int (nI j)), some (.ref (gm_ad X 1 j)), some (.int b40), some (.ref (gm_ad X 9 j)), some (.int 2), some (.int (nI i)), none] [] (iter (mmI j b40) i (iter mmU j M))) ?_ (fun i hi ihi => ?_)
              · try dsimp only
                refine go_iload hC dX2_makeMap_65 rfl ?_
                refine go_iload hC dX2_makeMap_67 rfl ?_
                refine go_icmp_ge hC 100 dX2_makeMap_69 (by decide) (fun h69 => ?_) (fun h69 => ?_)
                ·
                  refine go_iinc (v := 1) hC dX2_makeMap_100 rfl (by decide) ?_
                  simp only [gm_s0, gm_s1]
                  refine go_goto hC 14 dX2_makeMap_103 (by decide) ?_
                  rw [nI_1]
                  rw [e14] at ih
                  refine go_sub (go_mem ?_ ih) ?_
                  · exact mmU_s hb40
                  repeat (first | exact gm_le_nil | refine gm_le_c ?_ | refine gm_le_n ?_)
                ·
                  exact absurd (show nI 2 ≤ nI 2 from nI_le (Nat.le_refl _) (by decide)) h69
              · try dsimp only at ihi ⊢
                refine go_iload hC dX2_makeMap_65 rfl ?_
                refine go_iload hC dX2_makeMap_67 rfl ?_
                refine go_icmp_ge hC 100 dX2_makeMap_69 (by decide) (fun h69 => ?_) (fun h69 => ?_)
                ·
                  exact absurd h69 (show ¬ nI 2 ≤ nI i from nI_ge hi (by decide))
                ·
                  refine go_aload hC dX2_makeMap_72 rfl ?_
                  refine go_iload hC dX2_makeMap_74 rfl ?_
                  refine go_aald hC rfl (fun _ => rfl) (by first | decide | (show _ < 5; omega) | (show _ < 10; omega) | omega) (gm_in rfl (by omega) (by decide)) (gm_cl5 rfl (by omega)) dX2_makeMap_76 ?_
                  refine go_astore hC dX2_makeMap_77 (Nat.le_of_ble_eq_true rfl) ?_
                  simp only [gm_s0, gm_s1]
                  refine go_aload hC dX2_makeMap_79 rfl ?_
                  refine go_iload hC dX2_makeMap_81 rfl ?_
                  refine go_callV (n := 1) (k0 := 0) (n0 := 2 * j + i) hC hX (c_X0_giveContracted _ _ (by omega) _) gX2_makeMap_X0_giveContracted rfl (by decide +kernel) ⟨rfl, rfl⟩ (by rw [hR]; exact ⟨by decide, by decide⟩) (by rw [hR]; exact ⟨by decide, by decide⟩) rfl rfl rfl (by first | decide | (show _ < 5; omega) | (show _ < 10; omega) | omega) rfl rfl rfl (Nat.le_of_ble_eq_true rfl) dX2_makeMap_83 ?_
                  simp only [gm_r0, gm_r1]
                  refine go_iload_n hC dX2_makeMap_86 rfl ?_
                  refine go_aload hC dX2_makeMap_87 rfl ?_
                  refine go_geti (ci := 0) hC 9 kwX2_makeMap_0 rfl rfl (by decide) rfl lkX2_makeMap_212 (by first | decide | (show _ < 5; omega) | (show _ < 10; omega) | omega) dX2_makeMap_89 ?_
                  refine go_isub hC dX2_makeMap_92 ?_
                  refine go_istore_n hC 1 dX2_makeMap_93 rfl (Nat.le_of_ble_eq_true rfl) ?_
                  simp only [gm_s0, gm_s1]
                  refine go_iinc (v := 1) hC dX2_makeMap_94 rfl (by decide) ?_
                  simp only [gm_s0, gm_s1]
                  refine go_goto hC 65 dX2_makeMap_97 (by decide) ?_
                  rw [nI_1]
                  refine go_sub ihi ?_
                  repeat (first | exact gm_le_nil | refine gm_le_c ?_ | refine gm_le_n ?_)
            try dsimp only at lp65
            exact lp65
        ·
          refine go_aload hC dX2_makeMap_26 rfl ?_
          refine go_geti (ci := 1) hC 1 kwX2_makeMap_1 rfl rfl (by decide) rfl lkX2_makeMap_58 (by first | decide | (show _ < 5; omega) | (show _ < 10; omega) | omega) dX2_makeMap_28 ?_
          refine go_iconst (v := 2) hC dX2_makeMap_31 (by decide) ?_
          refine go_icmp_ne hC 39 dX2_makeMap_32 (by decide) (fun h32 => ?_) (fun h32 => ?_)
          ·
            refine go_iconst (v := 0) hC dX2_makeMap_39 (by decide) ?_
            exact hj40 _ (by first | exact (if_pos h32).symm | exact (if_neg h32).symm)
          ·
            refine go_iconst (v := 1) hC dX2_makeMap_35 (by decide) ?_
            refine go_goto hC 40 dX2_makeMap_36 (by decide) ?_
            exact hj40 _ (by first | exact (if_pos h32).symm | exact (if_neg h32).symm)
  try dsimp only at lp14
  refine go_bipush (v := 60) hC dX2_makeMap_0 (by decide) ?_
  refine go_istore_n hC 1 dX2_makeMap_2 rfl (Nat.le_of_ble_eq_true rfl) ?_
  simp only [gm_s0, gm_s1]
  refine go_aload_n hC dX2_makeMap_3 rfl ?_
  refine go_getr (ci := 2) hC 0 kwX2_makeMap_2 rfl rfl (by decide) rfl lkX2_makeMap_11 (by first | decide | (show _ < 5; omega) | (show _ < 10; omega) | omega) dX2_makeMap_4 ?_
  refine go_astore_n hC 2 dX2_makeMap_7 rfl (Nat.le_of_ble_eq_true rfl) ?_
  simp only [gm_s0, gm_s1]
  refine go_aload_n hC dX2_makeMap_8 rfl ?_
  refine go_alenr (v := 5) hC rfl (fun _ => rfl) (by first | decide | (show _ < 5; omega) | (show _ < 10; omega) | omega) (by decide) dX2_makeMap_9 ?_
  refine go_istore_n hC 3 dX2_makeMap_10 rfl (Nat.le_of_ble_eq_true rfl) ?_
  simp only [gm_s0, gm_s1]
  refine go_iconst (v := 0) hC dX2_makeMap_11 (by decide) ?_
  refine go_istore hC dX2_makeMap_12 (Nat.le_of_ble_eq_true rfl) ?_
  simp only [gm_s0, gm_s1]
  exact lp14
end
section
/-! ===== the class: the fibre (6): sending ===== -/
theorem cSend_ne {M : gm_M} {n k f m : Nat} {z : Int32} (h1 : k ≠ 11) (h2 : ¬ (k = 0 ∧ f = 3 ∧ m = n)) : cSend M n z k f m = M k f m := by
  unfold cSend
  split
  · exact gm_un1 h1
  · rw [show gm_up (gm_up M 11 0 n (M 11 0 n - 1)) 0 3 n 1 k f m = gm_up M 11 0 n (M 11 0 n - 1) k f m from if_neg h2]
    exact gm_un1 h1
theorem cDrop_ne {M : gm_M} {n q k f m : Nat} (h1 : k ≠ 10) (h2 : k ≠ 11) (h3 : ¬ (k = 0 ∧ (f = 2 ∨ f = 3) ∧ m = n)) : cDrop M n q k f m = M k f m := by
  unfold cDrop
  rw [show ∀ Z : gm_M, gm_up Z 0 3 n 0 k f m = Z k f m from fun Z => if_neg (fun e => h3 ⟨e.1, Or.inr e.2.1, e.2.2⟩)]
  refine iter_inv (P := fun Z => Z k f m = M k f m) (fun j Z hZ => ?_) ?_ q
  · simp only [cDrop1]
    rw [gm_un1 h2, gm_un1 h1]
    exact hZ
  · exact if_neg (fun e => h3 ⟨e.1, Or.inl e.2.1, e.2.2⟩)
theorem cDrop_q {M : gm_M} {n q : Nat} : cDrop M n q 0 2 n = M 0 2 n - 1 := by
  unfold cDrop
  rw [gm_un2 (by decide)]
  exact cDrop1_q (by rw [gm_us]) q
theorem ntF_ne {M : gm_M} {a k f m : Nat} {d u c : Int32} (h1 : k ≠ 5) (h2 : ¬ (k = 2 ∧ f = 11)) : ntF M a d u c k f m = M k f m := by
  unfold ntF
  rw [show ∀ Z : gm_M, gm_up Z 2 11 0 (nI (a + 1)) k f m = Z k f m from fun Z => if_neg (fun e => h2 ⟨e.1, e.2.1⟩), gm_un1 h1, gm_un1 h1, gm_un1 h1, gm_un1 h1]
theorem ntF_a {M : gm_M} {a : Nat} {d u c : Int32} : ntF M a d u c 2 11 0 = nI (a + 1) := gm_us
def cDropF (M : gm_M) (c : Nat) : gm_M := cDrop M c ((M 0 2 c).toNatClampNeg - 1)
def ntFF (M : gm_M) (d u j : Int32) : gm_M := ntF M (M 2 11 0).toNatClampNeg d u j
def sfStep (c : Nat) (sp uv jv : Int32) (M : gm_M) : gm_M := if cSend M c sp 11 0 c = 0 then (if cSend M c sp 0 3 c = 0 then cDropF (ntFF (cSend M c sp) (cSend M c sp 10 0 c) uv jv) c else cDropF (gm_up (cSend M c sp) 2 12 0 (cSend M c sp 2 12 0 + 1)) c) else cSend M c sp
def sfLoop (c : Nat) (sp uv jv : Int32) : Nat → gm_M → gm_M
  | 0, M => M
  | d + 1, M => if M 0 2 c ≤ 0 then M else sfLoop c sp uv jv d (sfStep c sp uv jv M)
/-- what sending from a container needs: its share, its queue, room for what comes -/
def IV (c g : Nat) (M : gm_M) : Prop := M 0 9 c = nI g ∧ ∃ q a : Nat, M 0 2 c = nI q ∧ q ≤ 8 ∧ M 2 11 0 = nI a ∧ a + q ≤ 100
theorem cDropF_eq {M : gm_M} {c q : Nat} (h : M 0 2 c = nI (q + 1)) (hq : q < 8) : cDropF M c = cDrop M c q := by
  unfold cDropF
  rw [h, nI_clamp (by omega)]
  rfl
theorem ntFF_eq {M : gm_M} {a : Nat} {d u j : Int32} (h : M 2 11 0 = nI a) (ha : a ≤ 100) : ntFF M d u j = ntF M a d u j := by
  unfold ntFF
  rw [h, nI_clamp (by omega)]
theorem kwX2_sendFrom_0 : ∀ w ∈ wsX00, w ∈ wsX2_sendFrom := by decide +kernel
theorem kwX2_sendFrom_1 : ∀ w ∈ wsX10, w ∈ wsX2_sendFrom := by decide +kernel
theorem kwX2_sendFrom_2 : ∀ w ∈ wsX20, w ∈ wsX2_sendFrom := by decide +kernel
theorem lkX2_sendFrom_11 : Cond.fieldLink RX2 11 "SharedFibre" "units" "[LSharedFibre$Unit;" ∈ wsX2_sendFrom := by decide +kernel
theorem lkX2_sendFrom_106 : Cond.fieldLink RX2 106 "SharedFibre$Container" "queued" "I" ∈ wsX2_sendFrom := by decide +kernel
theorem lkX2_sendFrom_135 : Cond.fieldLink RX2 135 "SharedFibre$Unit" "spoilt" "Z" ∈ wsX2_sendFrom := by decide +kernel
theorem lkX2_sendFrom_212 : Cond.fieldLink RX2 212 "SharedFibre$Container" "given" "I" ∈ wsX2_sendFrom := by decide +kernel
theorem lkX2_sendFrom_220 : Cond.fieldLink RX2 220 "SharedFibre" "lost" "I" ∈ wsX2_sendFrom := by decide +kernel
theorem lkX2_sendFrom_292 : Cond.fieldLink RX2 292 "SharedFibre$Container" "unsent" "[I" ∈ wsX2_sendFrom := by decide +kernel
theorem lkX2_sendFrom_295 : Cond.fieldLink RX2 295 "SharedFibre$Container" "firstHurt" "Z" ∈ wsX2_sendFrom := by decide +kernel
theorem lkX2_sendFrom_298 : Cond.fieldLink RX2 298 "SharedFibre$Container" "numbers" "[I" ∈ wsX2_sendFrom := by decide +kernel
set_option maxHeartbeats 4000000 in
set_option maxRecDepth 100000 in
/-- sendFrom -/
theorem c_X2_sendFrom (M : gm_M) (c u g : Nat) (hc : c < 10) (hu : u < 5) (jv : Int32) (hg31 : g < 2 ^ 31) (hIV : IV c g M) : KC lyC yX2_sendFrom wsX2_sendFrom ({ frames := 1, cells := 0, slots := 0, locals := 24 }) (fun ad => [.ref (ad 2 0), .ref (ad 0 c), .int (nI u), .int jv]) M (fun _ => none) (sfLoop c (M 1 14 u) (nI u) jv g M) := by
  refine KC.of_v (by decide) rfl rfl (fun _ => by simp) (fun _ => by simp [Value.category])  ?_
  intro X hC hR hX hE
  simp only [List.map_cons, List.map_nil, List.cons_append, List.nil_append, List.length_cons, List.length_nil, List.replicate, Nat.reduceAdd, Nat.reduceSub]
  have lp14 : (fun j : Nat => ∀ M2 : gm_M, IV c g M2 → sfLoop c (M 1 14 u) (nI u) jv (g - j) M2 = sfLoop c (M 1 14 u) (nI u) jv g M → GO lyC X 0 0 14 [some (.ref (gm_ad X 2 0)), some (.ref (gm_ad X 0 c)), some (.int (nI u)), some (.int jv), some (.int (M 1 14 u)), some (.int (nI j))] [] M2) 0 := by
    refine loopN (g) (fun j : Nat => ∀ M2 : gm_M, IV c g M2 → sfLoop c (M 1 14 u) (nI u) jv (g - j) M2 = sfLoop c (M 1 14 u) (nI u) jv g M → GO lyC X 0 0 14 [some (.ref (gm_ad X 2 0)), some (.ref (gm_ad X 0 c)), some (.int (nI u)), some (.int jv), some (.int (M 1 14 u)), some (.int (nI j))] [] M2) ?_ (fun j hj ih => ?_)
    · try dsimp only
      intro M2 hI hl
      have hfin : sfLoop c (M 1 14 u) (nI u) jv (g - g) M2 = M2 := by rw [Nat.sub_self]; rfl
      refine go_iload hC dX2_sendFrom_14 rfl ?_
      refine go_aload_n hC dX2_sendFrom_16 rfl ?_
      refine go_geti (ci := 0) hC 9 kwX2_sendFrom_0 rfl rfl (by decide) rfl lkX2_sendFrom_212 (by first | decide | (show _ < 5; omega) | (show _ < 10; omega) | omega) dX2_sendFrom_17 ?_
      refine go_icmp_ge hC 87 dX2_sendFrom_20 (by decide) (fun h20 => ?_) (fun h20 => ?_)
      ·
        rw [hfin] at hl
        rw [← hl] at hE
        exact hE _ _ dX2_sendFrom_87
      ·
        exact absurd (by rw [hI.1]; exact nI_le (Nat.le_refl _) hg31) h20
    · try dsimp only at ih ⊢
      intro M2 hI hl
      obtain ⟨d9, hd9⟩ : ∃ d9, g - j = d9 + 1 := ⟨g - j - 1, by omega⟩
      refine go_iload hC dX2_sendFrom_14 rfl ?_
      refine go_aload_n hC dX2_sendFrom_16 rfl ?_
      refine go_geti (ci := 0) hC 9 kwX2_sendFrom_0 rfl rfl (by decide) rfl lkX2_sendFrom_212 (by first | decide | (show _ < 5; omega) | (show _ < 10; omega) | omega) dX2_sendFrom_17 ?_
      refine go_icmp_ge hC 87 dX2_sendFrom_20 (by decide) (fun h20 => ?_) (fun h20 => ?_)
      ·
        exact absurd h20 (by rw [hI.1]; exact nI_ge hj hg31)
      ·
        refine go_aload_n hC dX2_sendFrom_23 rfl ?_
        refine go_geti (ci := 0) hC 2 kwX2_sendFrom_0 rfl rfl (by decide) rfl lkX2_sendFrom_106 (by first | decide | (show _ < 5; omega) | (show _ < 10; omega) | omega) dX2_sendFrom_24 ?_
        refine go_if_le hC 87 dX2_sendFrom_27 (by decide) (fun h27 => ?_) (fun h27 => ?_)
        ·
          have hfin : sfLoop c (M 1 14 u) (nI u) jv (g - j) M2 = M2 := by rw [hd9]; exact if_pos h27
          rw [hfin] at hl
          rw [← hl] at hE
          exact hE _ _ dX2_sendFrom_87
        ·
          refine go_aload_n hC dX2_sendFrom_30 rfl ?_
          refine go_iload hC dX2_sendFrom_31 rfl ?_
          refine go_callV (n := 1) (k0 := 0) (n0 := c) hC hX (c_X0_sendBlock _ _ (by omega) _) gX2_sendFrom_X0_sendBlock rfl (by decide +kernel) ⟨rfl, rfl⟩ (by rw [hR]; exact ⟨by decide, by decide⟩) (by rw [hR]; exact ⟨by decide, by decide⟩) rfl rfl rfl (by first | decide | (show _ < 5; omega) | (show _ < 10; omega) | omega) rfl rfl rfl (Nat.le_of_ble_eq_true rfl) dX2_sendFrom_33 ?_
          simp only [gm_r0, gm_r1]
          obtain ⟨hg9, q, a, hq, hq8, ha, haq⟩ := hI
          obtain ⟨q', rfl⟩ : ∃ q', q = q' + 1 := ⟨q - 1, by have : q ≠ 0 := fun e => h27 (by rw [hq, e]; decide); omega⟩
          have hs9 : (cSend M2 c (M 1 14 u)) 0 9 c = nI g := by rw [cSend_ne (by decide) (by simp)]; exact hg9
          have hs2 : (cSend M2 c (M 1 14 u)) 0 2 c = nI (q' + 1) := by rw [cSend_ne (by decide) (by simp)]; exact hq
          have hsa : (cSend M2 c (M 1 14 u)) 2 11 0 = nI a := by rw [cSend_ne (by decide) (by simp)]; exact ha
          refine go_aload_n hC dX2_sendFrom_36 rfl ?_
          refine go_getr (ci := 0) hC 1 kwX2_sendFrom_0 rfl rfl (by decide) rfl lkX2_sendFrom_292 (by first | decide | (show _ < 5; omega) | (show _ < 10; omega) | omega) dX2_sendFrom_37 ?_
          refine go_iconst (v := 0) hC dX2_sendFrom_40 (by decide) ?_
          refine go_iald hC rfl (by first | decide | (show _ < 5; omega) | (show _ < 10; omega) | omega) (gm_in (n := 0) nI_0.symm (by omega) (by decide)) (gm_cl (n := 0) nI_0.symm (by omega)) dX2_sendFrom_41 ?_
          refine go_if_ne hC 81 dX2_sendFrom_42 (by decide) (fun h42 => ?_) (fun h42 => ?_)
          ·
            have hI2 : IV c g (cSend M2 c (M 1 14 u)) := ⟨hs9, q' + 1, a, hs2, by omega, hsa, by omega⟩
            have hl2 : sfLoop c (M 1 14 u) (nI u) jv (g - (j + 1)) (cSend M2 c (M 1 14 u)) = sfLoop c (M 1 14 u) (nI u) jv g M := by
              rw [← hl, hd9, show g - (j + 1) = d9 by omega, show sfLoop c (M 1 14 u) (nI u) jv (d9 + 1) M2 = sfLoop c (M 1 14 u) (nI u) jv d9 (sfStep c (M 1 14 u) (nI u) jv M2) from if_neg h27, show sfStep c (M 1 14 u) (nI u) jv M2 = _ from if_neg h42]
            refine go_iinc (v := 1) hC dX2_sendFrom_81 rfl (by decide) ?_
            simp only [gm_s0, gm_s1]
            refine go_goto hC 14 dX2_sendFrom_84 (by decide) ?_
            rw [nI_1]
            exact ih _ hI2 hl2
          ·
            refine go_aload_n hC dX2_sendFrom_45 rfl ?_
            refine go_geti (ci := 0) hC 3 kwX2_sendFrom_0 rfl rfl (by decide) rfl lkX2_sendFrom_295 (by first | decide | (show _ < 5; omega) | (show _ < 10; omega) | omega) dX2_sendFrom_46 ?_
            refine go_if_eq hC 65 dX2_sendFrom_49 (by decide) (fun h49 => ?_) (fun h49 => ?_)
            ·
              refine go_aload_n hC dX2_sendFrom_65 rfl ?_
              refine go_aload_n hC dX2_sendFrom_66 rfl ?_
              refine go_getr (ci := 0) hC 0 kwX2_sendFrom_0 rfl rfl (by decide) rfl lkX2_sendFrom_298 (by first | decide | (show _ < 5; omega) | (show _ < 10; omega) | omega) dX2_sendFrom_67 ?_
              refine go_iconst (v := 0) hC dX2_sendFrom_70 (by decide) ?_
              refine go_iald hC rfl (by first | decide | (show _ < 5; omega) | (show _ < 10; omega) | omega) (gm_in (n := 0) nI_0.symm (by omega) (by decide)) (gm_cl (n := 0) nI_0.symm (by omega)) dX2_sendFrom_71 ?_
              refine go_iload_n hC dX2_sendFrom_72 rfl ?_
              refine go_iload_n hC dX2_sendFrom_73 rfl ?_
              refine go_callV (n := 3) (k0 := 2) (n0 := 0) hC hX (c_X2_note _ a hsa (by omega) _ _ _) gX2_sendFrom_X2_note rfl (by decide +kernel) ⟨rfl, rfl⟩ (by rw [hR]; exact ⟨by decide, by decide⟩) (by rw [hR]; exact ⟨by decide, by decide⟩) rfl rfl rfl (by first | decide | (show _ < 5; omega) | (show _ < 10; omega) | omega) rfl rfl rfl (Nat.le_of_ble_eq_true rfl) dX2_sendFrom_74 ?_
              simp only [gm_r0, gm_r1]
              refine go_aload_n hC dX2_sendFrom_77 rfl ?_
              refine go_callV (n := 0) (k0 := 0) (n0 := c) hC hX (c_X0_dropFirst _ _ q' (by omega) (by rw [ntF_ne (by decide) (by simp)]; exact hs2) (by omega)) gX2_sendFrom_X0_dropFirst rfl (by decide +kernel) ⟨rfl, rfl⟩ (by rw [hR]; exact ⟨by decide, by decide⟩) (by rw [hR]; exact ⟨by decide, by decide⟩) rfl rfl rfl (by first | decide | (show _ < 5; omega) | (show _ < 10; omega) | omega) rfl rfl rfl (Nat.le_of_ble_eq_true rfl) dX2_sendFrom_78 ?_
              simp only [gm_r0, gm_r1]
              have hI2 : IV c g (cDrop (ntF (cSend M2 c (M 1 14 u)) a ((cSend M2 c (M 1 14 u)) 10 0 c) (nI u) jv) c q') := ⟨by rw [cDrop_ne (by decide) (by decide) (by simp), ntF_ne (by decide) (by simp)]; exact hs9, q', a + 1, by rw [cDrop_q, ntF_ne (by decide) (by simp), hs2]; exact nI_pred q', by omega, by rw [cDrop_ne (by decide) (by decide) (by simp), ntF_a], by omega⟩
              have hl2 : sfLoop c (M 1 14 u) (nI u) jv (g - (j + 1)) (cDrop (ntF (cSend M2 c (M 1 14 u)) a ((cSend M2 c (M 1 14 u)) 10 0 c) (nI u) jv) c q') = sfLoop c (M 1 14 u) (nI u) jv g M := by
                rw [← hl, hd9, show g - (j + 1) = d9 by omega, show sfLoop c (M 1 14 u) (nI u) jv (d9 + 1) M2 = sfLoop c (M 1 14 u) (nI u) jv d9 (sfStep c (M 1 14 u) (nI u) jv M2) from if_neg h27, show sfStep c (M 1 14 u) (nI u) jv M2 = _ from if_pos h42, if_pos h49, ntFF_eq hsa (by omega), cDropF_eq (by rw [ntF_ne (by decide) (by simp)]; exact hs2) (by omega)]
              refine go_iinc (v := 1) hC dX2_sendFrom_81 rfl (by decide) ?_
              simp only [gm_s0, gm_s1]
              refine go_goto hC 14 dX2_sendFrom_84 (by decide) ?_
              rw [nI_1]
              exact ih _ hI2 hl2
            ·
              refine go_aload_n hC dX2_sendFrom_52 rfl ?_
              refine go_dup hC dX2_sendFrom_53 rfl ?_
              refine go_geti (ci := 2) hC 12 kwX2_sendFrom_2 rfl rfl (by decide) rfl lkX2_sendFrom_220 (by first | decide | (show _ < 5; omega) | (show _ < 10; omega) | omega) dX2_sendFrom_54 ?_
              refine go_iconst (v := 1) hC dX2_sendFrom_57 (by decide) ?_
              refine go_iadd hC dX2_sendFrom_58 ?_
              refine go_puti (ci := 2) hC 12 kwX2_sendFrom_2 rfl tyX2 tyX2_ok nmX2 rfl (by decide) rfl lkX2_sendFrom_220 (by first | decide | (show _ < 5; omega) | (show _ < 10; omega) | omega) rfl rfl rfl dX2_sendFrom_59 ?_
              refine go_goto hC 77 dX2_sendFrom_62 (by decide) ?_
              refine go_aload_n hC dX2_sendFrom_77 rfl ?_
              refine go_callV (n := 0) (k0 := 0) (n0 := c) hC hX (c_X0_dropFirst _ _ q' (by omega) (by rw [gm_un1 (by decide)]; exact hs2) (by omega)) gX2_sendFrom_X0_dropFirst rfl (by decide +kernel) ⟨rfl, rfl⟩ (by rw [hR]; exact ⟨by decide, by decide⟩) (by rw [hR]; exact ⟨by decide, by decide⟩) rfl rfl rfl (by first | decide | (show _ < 5; omega) | (show _ < 10; omega) | omega) rfl rfl rfl (Nat.le_of_ble_eq_true rfl) dX2_sendFrom_78 ?_
              simp only [gm_r0, gm_r1]
              have hI2 : IV c g (cDrop (gm_up (cSend M2 c (M 1 14 u)) 2 12 0 ((cSend M2 c (M 1 14 u)) 2 12 0 + 1)) c q') := ⟨by rw [cDrop_ne (by decide) (by decide) (by simp), gm_un1 (by decide)]; exact hs9, q', a, by rw [cDrop_q, gm_un1 (by decide), hs2]; exact nI_pred q', by omega, by rw [cDrop_ne (by decide) (by decide) (by simp), gm_un2 (by decide)]; exact hsa, by omega⟩
              have hl2 : sfLoop c (M 1 14 u) (nI u) jv (g - (j + 1)) (cDrop (gm_up (cSend M2 c (M 1 14 u)) 2 12 0 ((cSend M2 c (M 1 14 u)) 2 12 0 + 1)) c q') = sfLoop c (M 1 14 u) (nI u) jv g M := by
                rw [← hl, hd9, show g - (j + 1) = d9 by omega, show sfLoop c (M 1 14 u) (nI u) jv (d9 + 1) M2 = sfLoop c (M 1 14 u) (nI u) jv d9 (sfStep c (M 1 14 u) (nI u) jv M2) from if_neg h27, show sfStep c (M 1 14 u) (nI u) jv M2 = _ from if_pos h42, if_neg h49, cDropF_eq (by rw [gm_un1 (by decide)]; exact hs2) (by omega)]
              refine go_iinc (v := 1) hC dX2_sendFrom_81 rfl (by decide) ?_
              simp only [gm_s0, gm_s1]
              refine go_goto hC 14 dX2_sendFrom_84 (by decide) ?_
              rw [nI_1]
              exact ih _ hI2 hl2
  try dsimp only at lp14
  refine go_aload_n hC dX2_sendFrom_0 rfl ?_
  refine go_getr (ci := 2) hC 0 kwX2_sendFrom_2 rfl rfl (by decide) rfl lkX2_sendFrom_11 (by first | decide | (show _ < 5; omega) | (show _ < 10; omega) | omega) dX2_sendFrom_1 ?_
  refine go_iload_n hC dX2_sendFrom_4 rfl ?_
  refine go_aald hC rfl (fun _ => rfl) (by first | decide | (show _ < 5; omega) | (show _ < 10; omega) | omega) (gm_in rfl (by omega) (by decide)) (gm_cu rfl (by omega)) dX2_sendFrom_5 ?_
  refine go_geti (ci := 1) hC 14 kwX2_sendFrom_1 rfl rfl (by decide) rfl lkX2_sendFrom_135 (by first | decide | (show _ < 5; omega) | (show _ < 10; omega) | omega) dX2_sendFrom_6 ?_
  refine go_istore hC dX2_sendFrom_9 (Nat.le_of_ble_eq_true rfl) ?_
  simp only [gm_s0, gm_s1]
  refine go_iconst (v := 0) hC dX2_sendFrom_11 (by decide) ?_
  refine go_istore hC dX2_sendFrom_12 (Nat.le_of_ble_eq_true rfl) ?_
  simp only [gm_s0, gm_s1]
  exact lp14 M hIV rfl
end
section
/-! ===== the class: the fibre (7): sending, the frame ===== -/
theorem sfStep_ne {c : Nat} {sp uv jv : Int32} {M : gm_M} {k f m : Nat} (h1 : k ≠ 10) (h2 : k ≠ 11) (h3 : k ≠ 5) (h4 : ¬ (k = 0 ∧ (f = 2 ∨ f = 3) ∧ m = c)) (h5 : ¬ (k = 2 ∧ (f = 11 ∨ f = 12))) : sfStep c sp uv jv M k f m = M k f m := by
  have e : cSend M c sp k f m = M k f m := cSend_ne h2 (fun q => h4 ⟨q.1, Or.inr q.2.1, q.2.2⟩)
  unfold sfStep
  split
  · split
    · unfold cDropF
      rw [cDrop_ne h1 h2 h4]
      unfold ntFF
      rw [ntF_ne h3 (fun q => h5 ⟨q.1, Or.inl q.2⟩)]
      exact e
    · unfold cDropF
      rw [cDrop_ne h1 h2 h4, show ∀ x : Int32, gm_up (cSend M c sp) 2 12 0 x k f m = cSend M c sp k f m from fun x => if_neg (fun q => h5 ⟨q.1, Or.inr q.2.1⟩)]
      exact e
  · exact e
theorem sfLoop_ne {c : Nat} {sp uv jv : Int32} {k f m : Nat} (h1 : k ≠ 10) (h2 : k ≠ 11) (h3 : k ≠ 5) (h4 : ¬ (k = 0 ∧ (f = 2 ∨ f = 3) ∧ m = c)) (h5 : ¬ (k = 2 ∧ (f = 11 ∨ f = 12))) : ∀ (d : Nat) (M : gm_M), sfLoop c sp uv jv d M k f m = M k f m
  | 0, M => rfl
  | d + 1, M => by
    by_cases h : M 0 2 c ≤ 0
    · rw [show sfLoop c sp uv jv (d + 1) M = M from if_pos h]
    · rw [show sfLoop c sp uv jv (d + 1) M = sfLoop c sp uv jv d (sfStep c sp uv jv M) from if_neg h, sfLoop_ne h1 h2 h3 h4 h5 d, sfStep_ne h1 h2 h3 h4 h5]
/-- the queue's length and what has come, together: never more -/
def QA (c : Nat) (M : gm_M) (t : Nat) : Prop := ∃ q a : Nat, M 0 2 c = nI q ∧ q ≤ 8 ∧ M 2 11 0 = nI a ∧ a + q ≤ t
theorem sfStep_qa {c : Nat} {sp uv jv : Int32} {M : gm_M} {t : Nat} (ht : t ≤ 100) (h : QA c M t) (h0 : ¬ M 0 2 c ≤ 0) : QA c (sfStep c sp uv jv M) t := by
  obtain ⟨q, a, hq, hq8, ha, haq⟩ := h
  obtain ⟨q', rfl⟩ : ∃ q', q = q' + 1 := ⟨q - 1, by have : q ≠ 0 := fun e => h0 (by rw [hq, e]; decide); omega⟩
  have hs2 : cSend M c sp 0 2 c = nI (q' + 1) := by rw [cSend_ne (by decide) (by simp)]; exact hq
  have hsa : cSend M c sp 2 11 0 = nI a := by rw [cSend_ne (by decide) (by simp)]; exact ha
  unfold sfStep
  split
  · split
    · rw [ntFF_eq hsa (by omega), cDropF_eq (q := q') (by rw [ntF_ne (by decide) (by simp)]; exact hs2) (by omega)]
      exact ⟨q', a + 1, by rw [cDrop_q, ntF_ne (by decide) (by simp), hs2]; exact nI_pred q', by omega, by rw [cDrop_ne (by decide) (by decide) (by simp), ntF_a], by omega⟩
    · rw [cDropF_eq (q := q') (by rw [gm_un1 (by decide)]; exact hs2) (by omega)]
      exact ⟨q', a, by rw [cDrop_q, gm_un1 (by decide), hs2]; exact nI_pred q', by omega, by rw [cDrop_ne (by decide) (by decide) (by simp), gm_un2 (by decide)]; exact hsa, by omega⟩
  · exact ⟨q' + 1, a, hs2, hq8, hsa, haq⟩
theorem sfLoop_qa {c : Nat} {sp uv jv : Int32} {t : Nat} (ht : t ≤ 100) : ∀ (d : Nat) (M : gm_M), QA c M t → QA c (sfLoop c sp uv jv d M) t
  | 0, M, h => h
  | d + 1, M, h => by
    by_cases h0 : M 0 2 c ≤ 0
    · rw [show sfLoop c sp uv jv (d + 1) M = M from if_pos h0]
      exact h
    · rw [show sfLoop c sp uv jv (d + 1) M = sfLoop c sp uv jv d (sfStep c sp uv jv M) from if_neg h0]
      exact sfLoop_qa ht d _ (sfStep_qa ht h h0)
def qs (q : Nat → Nat) : Nat := q 0 + q 1 + q 2 + q 3 + q 4 + q 5 + q 6 + q 7 + q 8 + q 9
theorem qs_upd (q : Nat → Nat) (v : Nat) : ∀ c, c < 10 → qs (fun x => if x = c then v else q x) + q c = qs q + v := by
  intro c hc
  rcases (show c = 0 ∨ c = 1 ∨ c = 2 ∨ c = 3 ∨ c = 4 ∨ c = 5 ∨ c = 6 ∨ c = 7 ∨ c = 8 ∨ c = 9 by omega) with rfl | rfl | rfl | rfl | rfl | rfl | rfl | rfl | rfl | rfl <;> simp [qs] <;> omega
theorem qs_ge (q : Nat → Nat) : ∀ c, c < 10 → q c ≤ qs q := by
  intro c hc
  rcases (show c = 0 ∨ c = 1 ∨ c = 2 ∨ c = 3 ∨ c = 4 ∨ c = 5 ∨ c = 6 ∨ c = 7 ∨ c = 8 ∨ c = 9 by omega) with rfl | rfl | rfl | rfl | rfl | rfl | rfl | rfl | rfl | rfl <;> simp [qs] <;> omega
/-- what sending needs of all containers -/
def IVS (M : gm_M) : Prop := (∀ c, c < 10 → ∃ g, g < 2 ^ 31 ∧ M 0 9 c = nI g) ∧ ∃ (q : Nat → Nat) (a : Nat), (∀ c, c < 10 → M 0 2 c = nI (q c) ∧ q c ≤ 8) ∧ M 2 11 0 = nI a ∧ a + qs q ≤ 100
theorem IVS.iv {M : gm_M} (h : IVS M) {c : Nat} (hc : c < 10) : IV c (M 0 9 c).toNatClampNeg M ∧ (M 0 9 c).toNatClampNeg < 2 ^ 31 := by
  obtain ⟨hg, q, a, hq, ha, hs⟩ := h
  obtain ⟨g, hg31, eg⟩ := hg c hc
  rw [IV, eg, nI_clamp hg31]
  have := qs_ge q c hc
  exact ⟨⟨rfl, q c, a, (hq c hc).1, (hq c hc).2, ha, by omega⟩, hg31⟩
theorem IVS.q {M : gm_M} (h : IVS M) {c : Nat} (hc : c < 10) : M 0 2 c = nI (M 0 2 c).toNatClampNeg ∧ (M 0 2 c).toNatClampNeg ≤ 8 := by
  obtain ⟨hg, q, a, hq, ha, hs⟩ := h
  obtain ⟨e, h8⟩ := hq c hc
  rw [e, nI_clamp (by omega)]
  exact ⟨rfl, h8⟩
def loadF (M : gm_M) (c : Nat) : Int32 := bx_sum (fun k => M 11 k c) (M 0 2 c).toNatClampNeg
def sbA (i : Nat) (jj : Nat) (M : gm_M) : gm_M := sfLoop (2 * i + jj) (M 1 14 i) (nI i) (nI jj) (M 0 9 (2 * i + jj)).toNatClampNeg M
def sb1 (i : Nat) : Nat → gm_M → gm_M := fun jj M => if sbA i jj M 1 14 i = 0 then gm_up (sbA i jj M) 0 8 (2 * i + jj) (loadF (sbA i jj M) (2 * i + jj)) else sbA i jj M
def sb2 : Nat → gm_M → gm_M := fun i M => if M 1 1 i = 2 then iter (sb1 i) 2 M else M
theorem sbA_IVS {i jj : Nat} {M : gm_M} (hi : i < 5) (hj : jj < 2) (h : IVS M) : IVS (sbA i jj M) := by
  have hc : 2 * i + jj < 10 := by omega
  obtain ⟨hg, q, a, hq, ha, hs⟩ := h
  have hge := qs_ge q (2 * i + jj) hc
  obtain ⟨q', a', hq', hq8', ha', hs'⟩ := sfLoop_qa (c := 2 * i + jj) (sp := M 1 14 i) (uv := nI i) (jv := nI jj) (t := a + q (2 * i + jj)) (by omega) (M 0 9 (2 * i + jj)).toNatClampNeg M ⟨q (2 * i + jj), a, (hq _ hc).1, (hq _ hc).2, ha, Nat.le_refl _⟩
  refine ⟨fun c h10 => ?_, fun x => if x = 2 * i + jj then q' else q x, a', fun c h10 => ?_, ha', ?_⟩
  · obtain ⟨g, h1, h2⟩ := hg c h10
    refine ⟨g, h1, ?_⟩
    unfold sbA
    rw [sfLoop_ne (by decide) (by decide) (by decide) (by simp) (by simp)]
    exact h2
  · by_cases e : c = 2 * i + jj
    · subst e
      simp only [if_pos]
      exact ⟨hq', hq8'⟩
    · simp only [if_neg e]
      unfold sbA
      rw [sfLoop_ne (by decide) (by decide) (by decide) (by simp [e]) (by simp)]
      exact hq c h10
  · have := qs_upd q q' (2 * i + jj) hc
    omega
theorem sb1_IVS {i jj : Nat} {M : gm_M} (hi : i < 5) (hj : jj < 2) (h : IVS M) : IVS (sb1 i jj M) := by
  have h1 := sbA_IVS hi hj h
  unfold sb1
  split
  · obtain ⟨hg, q, a, hq, ha, hs⟩ := h1
    refine ⟨fun c hc => ?_, q, a, fun c hc => ?_, ?_, hs⟩
    · rw [gm_un2 (by decide)]; exact hg c hc
    · rw [gm_un2 (by decide)]; exact hq c hc
    · rw [gm_un1 (by decide)]; exact ha
  · exact h1
theorem iter_invL {f : Nat → gm_M → gm_M} {P : gm_M → Prop} (n : Nat) (h : ∀ k M, k < n → P M → P (f k M)) {M : gm_M} (h0 : P M) : ∀ k, k ≤ n → P (iter f k M)
  | 0, _ => h0
  | k + 1, hk => h k _ (by omega) (iter_invL n h h0 k (by omega))
theorem sb2_IVS {i : Nat} {M : gm_M} (hi : i < 5) (h : IVS M) : IVS (sb2 i M) := by
  unfold sb2
  split
  · exact iter_invL 2 (fun k M hk hM => sb1_IVS hi hk hM) h 2 (Nat.le_refl 2)
  · exact h
theorem kwX2_sendBlocks_0 : ∀ w ∈ wsX00, w ∈ wsX2_sendBlocks := by decide +kernel
theorem kwX2_sendBlocks_1 : ∀ w ∈ wsX10, w ∈ wsX2_sendBlocks := by decide +kernel
theorem kwX2_sendBlocks_2 : ∀ w ∈ wsX20, w ∈ wsX2_sendBlocks := by decide +kernel
theorem lkX2_sendBlocks_11 : Cond.fieldLink RX2 11 "SharedFibre" "units" "[LSharedFibre$Unit;" ∈ wsX2_sendBlocks := by decide +kernel
theorem lkX2_sendBlocks_58 : Cond.fieldLink RX2 58 "SharedFibre$Unit" "state" "I" ∈ wsX2_sendBlocks := by decide +kernel
theorem lkX2_sendBlocks_135 : Cond.fieldLink RX2 135 "SharedFibre$Unit" "spoilt" "Z" ∈ wsX2_sendBlocks := by decide +kernel
theorem lkX2_sendBlocks_209 : Cond.fieldLink RX2 209 "SharedFibre$Container" "reported" "I" ∈ wsX2_sendBlocks := by decide +kernel
theorem lkX2_sendBlocks_240 : Cond.fieldLink RX2 240 "SharedFibre$Unit" "containers" "[LSharedFibre$Container;" ∈ wsX2_sendBlocks := by decide +kernel
set_option maxHeartbeats 4000000 in
set_option maxRecDepth 100000 in
/-- sendBlocks -/
theorem c_X2_sendBlocks (M : gm_M) (hI : IVS M) : KC lyC yX2_sendBlocks wsX2_sendBlocks ({ frames := 2, cells := 0, slots := 0, locals := 49 }) (fun ad => [.ref (ad 2 0)]) M (fun _ => none) (iter sb2 5 M) := by
  refine KC.of_v (by decide) rfl rfl (fun _ => by simp) (fun _ => by simp [Value.category])  ?_
  intro X hC hR hX hE
  simp only [List.map_cons, List.map_nil, List.cons_append, List.nil_append, List.length_cons, List.length_nil, List.replicate, Nat.reduceAdd, Nat.reduceSub]
  have lp2 : (fun j : Nat => GO lyC X 0 0 2 [some (.ref (gm_ad X 2 0)), some (.int (nI j)), none, none, none] [] (iter sb2 j M)) 0 := by
    refine loopN (5) (fun j : Nat => GO lyC X 0 0 2 [some (.ref (gm_ad X 2 0)), some (.int (nI j)), none, none, none] [] (iter sb2 j M)) ?_ (fun j hj ih => ?_)
    · try dsimp only
      refine go_iload_n hC dX2_sendBlocks_2 rfl ?_
      refine go_iconst (v := 5) hC dX2_sendBlocks_3 (by decide) ?_
      refine go_icmp_ge hC 74 dX2_sendBlocks_4 (by decide) (fun h4 => ?_) (fun h4 => ?_)
      ·
        refine go_cast ?_ ?_ (hE _ _ dX2_sendBlocks_74)
        · first | rfl | (simp [*]; done) | (simp [*, gm_us, gm_un1, gm_un2]; done)
        · first | rfl | (simp [*]; done) | (simp [*, gm_us, gm_un1, gm_un2]; done)
      ·
        exact absurd (show nI 5 ≤ nI 5 from nI_le (Nat.le_refl _) (by decide)) h4
    · try dsimp only at ih ⊢
      have hIj : IVS (iter sb2 j M) := iter_invL 5 (fun k M hk hM => sb2_IVS hk hM) hI j (by omega)
      refine go_iload_n hC dX2_sendBlocks_2 rfl ?_
      refine go_iconst (v := 5) hC dX2_sendBlocks_3 (by decide) ?_
      refine go_icmp_ge hC 74 dX2_sendBlocks_4 (by decide) (fun h4 => ?_) (fun h4 => ?_)
      ·
        exact absurd h4 (show ¬ nI 5 ≤ nI j from nI_ge hj (by decide))
      ·
        refine go_aload_n hC dX2_sendBlocks_7 rfl ?_
        refine go_getr (ci := 2) hC 0 kwX2_sendBlocks_2 rfl rfl (by decide) rfl lkX2_sendBlocks_11 (by first | decide | (show _ < 5; omega) | (show _ < 10; omega) | omega) dX2_sendBlocks_8 ?_
        refine go_iload_n hC dX2_sendBlocks_11 rfl ?_
        refine go_aald hC rfl (fun _ => rfl) (by first | decide | (show _ < 5; omega) | (show _ < 10; omega) | omega) (gm_in rfl (by omega) (by decide)) (gm_cu rfl (by omega)) dX2_sendBlocks_12 ?_
        refine go_astore_n hC 2 dX2_sendBlocks_13 rfl (Nat.le_of_ble_eq_true rfl) ?_
        simp only [gm_s0, gm_s1]
        refine go_aload_n hC dX2_sendBlocks_14 rfl ?_
        refine go_geti (ci := 1) hC 1 kwX2_sendBlocks_1 rfl rfl (by decide) rfl lkX2_sendBlocks_58 (by first | decide | (show _ < 5; omega) | (show _ < 10; omega) | omega) dX2_sendBlocks_15 ?_
        refine go_iconst (v := 2) hC dX2_sendBlocks_18 (by decide) ?_
        refine go_icmp_ne hC 68 dX2_sendBlocks_19 (by decide) (fun h19 => ?_) (fun h19 => ?_)
        ·
          refine go_iinc (v := 1) hC dX2_sendBlocks_68 rfl (by decide) ?_
          simp only [gm_s0, gm_s1]
          refine go_goto hC 2 dX2_sendBlocks_71 (by decide) ?_
          rw [nI_1]
          refine go_sub (go_mem ?_ ih) ?_
          · rw [iter_s sb2 j]
            first | exact (if_pos h19).symm | exact (if_neg h19).symm
          repeat (first | exact gm_le_nil | refine gm_le_c ?_ | refine gm_le_n ?_)
        ·
          refine go_iconst (v := 0) hC dX2_sendBlocks_22 (by decide) ?_
          refine go_istore_n hC 3 dX2_sendBlocks_23 rfl (Nat.le_of_ble_eq_true rfl) ?_
          simp only [gm_s0, gm_s1]
          have lp24 : (fun i : Nat => GO lyC X 0 0 24 [some (.ref (gm_ad X 2 0)), some (.int (nI j)), some (.ref (gm_ad X 1 j)), some (.int (nI i)), none] [] (iter (sb1 j) i (iter sb2 j M))) 0 := by
            refine loopN (2) (fun i : Nat => GO lyC X 0 0 24 [some (.ref (gm_ad X 2 0)), some (.int (nI j)), some (.ref (gm_ad X 1 j)), some (.int (nI i)), none] [] (iter (sb1 j) i (iter sb2 j M))) ?_ (fun i hi ihi => ?_)
            · try dsimp only
              refine go_iload_n hC dX2_sendBlocks_24 rfl ?_
              refine go_iconst (v := 2) hC dX2_sendBlocks_25 (by decide) ?_
              refine go_icmp_ge hC 68 dX2_sendBlocks_26 (by decide) (fun h26 => ?_) (fun h26 => ?_)
              ·
                refine go_iinc (v := 1) hC dX2_sendBlocks_68 rfl (by decide) ?_
                simp only [gm_s0, gm_s1]
                refine go_goto hC 2 dX2_sendBlocks_71 (by decide) ?_
                rw [nI_1]
                refine go_sub (go_mem ?_ ih) ?_
                · rw [iter_s sb2 j]
                  first | exact (if_pos h19).symm | exact (if_neg h19).symm
                repeat (first | exact gm_le_nil | refine gm_le_c ?_ | refine gm_le_n ?_)
              ·
                exact absurd (show nI 2 ≤ nI 2 from nI_le (Nat.le_refl _) (by decide)) h26
            · try dsimp only at ihi ⊢
              have hIc : IVS (iter (sb1 j) i (iter sb2 j M)) := iter_invL 2 (fun k M hk hM => sb1_IVS hj hk hM) hIj i (by omega)
              refine go_iload_n hC dX2_sendBlocks_24 rfl ?_
              refine go_iconst (v := 2) hC dX2_sendBlocks_25 (by decide) ?_
              refine go_icmp_ge hC 68 dX2_sendBlocks_26 (by decide) (fun h26 => ?_) (fun h26 => ?_)
              ·
                exact absurd h26 (show ¬ nI 2 ≤ nI i from nI_ge hi (by decide))
              ·
                refine go_aload_n hC dX2_sendBlocks_29 rfl ?_
                refine go_getr (ci := 1) hC 0 kwX2_sendBlocks_1 rfl rfl (by decide) rfl lkX2_sendBlocks_240 (by first | decide | (show _ < 5; omega) | (show _ < 10; omega) | omega) dX2_sendBlocks_30 ?_
                refine go_iload_n hC dX2_sendBlocks_33 rfl ?_
                refine go_aald hC rfl (fun _ => rfl) (by first | decide | (show _ < 5; omega) | (show _ < 10; omega) | omega) (gm_in rfl (by omega) (by decide)) (gm_cl5 rfl (by omega)) dX2_sendBlocks_34 ?_
                refine go_astore hC dX2_sendBlocks_35 (Nat.le_of_ble_eq_true rfl) ?_
                simp only [gm_s0, gm_s1]
                refine go_aload_n hC dX2_sendBlocks_37 rfl ?_
                refine go_aload hC dX2_sendBlocks_38 rfl ?_
                refine go_iload_n hC dX2_sendBlocks_40 rfl ?_
                refine go_iload_n hC dX2_sendBlocks_41 rfl ?_
                refine go_callV (n := 3) (k0 := 2) (n0 := 0) hC hX (c_X2_sendFrom _ (2 * j + i) j _ (by omega) (by omega) _ (hIc.iv (c := 2 * j + i) (by omega)).2 (hIc.iv (c := 2 * j + i) (by omega)).1) gX2_sendBlocks_X2_sendFrom rfl (by decide +kernel) ⟨rfl, rfl⟩ (by rw [hR]; exact ⟨by decide, by decide⟩) (by rw [hR]; exact ⟨by decide, by decide⟩) rfl rfl rfl (by first | decide | (show _ < 5; omega) | (show _ < 10; omega) | omega) rfl rfl rfl (Nat.le_of_ble_eq_true rfl) dX2_sendBlocks_42 ?_
                simp only [gm_r0, gm_r1]
                have hIa : IVS (sbA j i (iter (sb1 j) i (iter sb2 j M))) := sbA_IVS hj hi hIc
                refine go_aload_n hC dX2_sendBlocks_45 rfl ?_
                refine go_geti (ci := 1) hC 14 kwX2_sendBlocks_1 rfl rfl (by decide) rfl lkX2_sendBlocks_135 (by first | decide | (show _ < 5; omega) | (show _ < 10; omega) | omega) dX2_sendBlocks_46 ?_
                refine go_if_ne hC 62 dX2_sendBlocks_49 (by decide) (fun h49 => ?_) (fun h49 => ?_)
                ·
                  refine go_iinc (v := 1) hC dX2_sendBlocks_62 rfl (by decide) ?_
                  simp only [gm_s0, gm_s1]
                  refine go_goto hC 24 dX2_sendBlocks_65 (by decide) ?_
                  rw [nI_1]
                  refine go_sub (go_mem ?_ ihi) ?_
                  · rw [iter_s (sb1 j) i]
                    first | exact (if_pos h49).symm | exact (if_neg h49).symm
                  repeat (first | exact gm_le_nil | refine gm_le_c ?_ | refine gm_le_n ?_)
                ·
                  refine go_aload hC dX2_sendBlocks_52 rfl ?_
                  refine go_aload hC dX2_sendBlocks_54 rfl ?_
                  refine go_callV (n := 0) (k0 := 0) (n0 := 2 * j + i) hC hX (c_X0_load _ _ _ (by omega) (hIa.q (c := 2 * j + i) (by omega)).1 (hIa.q (c := 2 * j + i) (by omega)).2) gX2_sendBlocks_X0_load rfl (by decide +kernel) ⟨rfl, rfl⟩ (by rw [hR]; exact ⟨by decide, by decide⟩) (by rw [hR]; exact ⟨by decide, by decide⟩) rfl rfl rfl (by first | decide | (show _ < 5; omega) | (show _ < 10; omega) | omega) rfl rfl rfl (Nat.le_of_ble_eq_true rfl) dX2_sendBlocks_56 ?_
                  simp only [gm_r0, gm_r1]
                  refine go_puti (ci := 0) hC 8 kwX2_sendBlocks_0 rfl tyX0 tyX0_ok nmX0 rfl (by decide) rfl lkX2_sendBlocks_209 (by first | decide | (show _ < 5; omega) | (show _ < 10; omega) | omega) rfl rfl rfl dX2_sendBlocks_59 ?_
                  refine go_iinc (v := 1) hC dX2_sendBlocks_62 rfl (by decide) ?_
                  simp only [gm_s0, gm_s1]
                  refine go_goto hC 24 dX2_sendBlocks_65 (by decide) ?_
                  rw [nI_1]
                  refine go_sub (go_mem ?_ ihi) ?_
                  · rw [iter_s (sb1 j) i]
                    first | exact (if_pos h49).symm | exact (if_neg h49).symm
                  repeat (first | exact gm_le_nil | refine gm_le_c ?_ | refine gm_le_n ?_)
          try dsimp only at lp24
          refine go_sub lp24 ?_
          repeat (first | exact gm_le_nil | refine gm_le_c ?_ | refine gm_le_n ?_)
  try dsimp only at lp2
  refine go_iconst (v := 0) hC dX2_sendBlocks_0 (by decide) ?_
  refine go_istore_n hC 1 dX2_sendBlocks_1 rfl (Nat.le_of_ble_eq_true rfl) ?_
  simp only [gm_s0, gm_s1]
  exact lp2
def frA (M : gm_M) : gm_M := gm_up M 2 9 0 (M 2 9 0 + 1)
def frB (M : gm_M) : gm_M := gm_up (frA M) 2 7 0 0
def frQ (M : gm_M) : gm_M := gm_up (frB M) 2 8 0 0
def frW (M : gm_M) : gm_M := iter we2 5 (frB M)
def frC (M : gm_M) (b : Nat) : gm_M := iter cm2 5 (lbP (mmF (frW M) b) 5).1
def frZ (M : gm_M) (b : Nat) : gm_M := iter csF 5 (iter tdF 5 (iter sb2 5 (frC M b)))
def frM (M : gm_M) (o b : Nat) : gm_M := if M 4 o 0 = 0 then (if M 2 8 0 = 0 then frZ M b else pqF (frQ M)) else dkF (frA M) (1 - o)
def frR (M : gm_M) (o b : Nat) : Int32 := if M 4 o 0 = 0 then (if M 2 8 0 = 0 then frZ M b 2 11 0 - M 2 11 0 else -2) else -1
theorem kwX2_frame_2 : ∀ w ∈ wsX20, w ∈ wsX2_frame := by decide +kernel
theorem lkX2_frame_15 : Cond.fieldLink RX2 15 "SharedFibre" "cut" "[Z" ∈ wsX2_frame := by decide +kernel
theorem lkX2_frame_140 : Cond.fieldLink RX2 140 "SharedFibre" "quietAsked" "Z" ∈ wsX2_frame := by decide +kernel
theorem lkX2_frame_143 : Cond.fieldLink RX2 143 "SharedFibre" "frames" "I" ∈ wsX2_frame := by decide +kernel
theorem lkX2_frame_146 : Cond.fieldLink RX2 146 "SharedFibre" "active" "I" ∈ wsX2_frame := by decide +kernel
theorem lkX2_frame_152 : Cond.fieldLink RX2 152 "SharedFibre" "darkInRow" "I" ∈ wsX2_frame := by decide +kernel
theorem lkX2_frame_158 : Cond.fieldLink RX2 158 "SharedFibre" "arrived" "I" ∈ wsX2_frame := by decide +kernel
set_option maxHeartbeats 4000000 in
set_option maxRecDepth 100000 in
/-- frame -/
theorem c_X2_frame (M : gm_M) (o b : Nat) (ho : M 2 6 0 = nI o) (ho1 : o ≤ 1) (hb31 : b < 2 ^ 31) (hb : M 4 o 0 = 0 → M 2 8 0 = 0 → mmL (frW M) 5 = nI b) (hI : M 4 o 0 = 0 → M 2 8 0 = 0 → IVS (frC M b)) : KC lyC yX2_frame wsX2_frame ({ frames := 4, cells := 0, slots := 0, locals := 103 }) (fun ad => [.ref (ad 2 0)]) M (fun _ => some (.int (frR M o b))) (frM M o b) := by
  refine KC.of_i (by decide) rfl rfl (fun _ => by simp) (fun _ => by simp [Value.category])  ?_
  intro X hC hR hX hE
  simp only [List.map_cons, List.map_nil, List.cons_append, List.nil_append, List.length_cons, List.length_nil, List.replicate, Nat.reduceAdd, Nat.reduceSub]
  refine go_aload_n hC dX2_frame_0 rfl ?_
  refine go_dup hC dX2_frame_1 rfl ?_
  refine go_geti (ci := 2) hC 9 kwX2_frame_2 rfl rfl (by decide) rfl lkX2_frame_143 (by first | decide | (show _ < 5; omega) | (show _ < 10; omega) | omega) dX2_frame_2 ?_
  refine go_iconst (v := 1) hC dX2_frame_5 (by decide) ?_
  refine go_iadd hC dX2_frame_6 ?_
  refine go_puti (ci := 2) hC 9 kwX2_frame_2 rfl tyX2 tyX2_ok nmX2 rfl (by decide) rfl lkX2_frame_143 (by first | decide | (show _ < 5; omega) | (show _ < 10; omega) | omega) rfl rfl rfl dX2_frame_7 ?_
  refine go_aload_n hC dX2_frame_10 rfl ?_
  refine go_getr (ci := 2) hC 1 kwX2_frame_2 rfl rfl (by decide) rfl lkX2_frame_15 (by first | decide | (show _ < 5; omega) | (show _ < 10; omega) | omega) dX2_frame_11 ?_
  refine go_aload_n hC dX2_frame_14 rfl ?_
  refine go_geti (ci := 2) hC 6 kwX2_frame_2 rfl rfl (by decide) rfl lkX2_frame_146 (by first | decide | (show _ < 5; omega) | (show _ < 10; omega) | omega) dX2_frame_15 ?_
  refine go_zald hC rfl (by first | decide | (show _ < 5; omega) | (show _ < 10; omega) | omega) (gm_in (n := o) ((gm_un2 (by decide)).trans ho) (by omega) (by decide)) (gm_cl (n := o) ((gm_un2 (by decide)).trans ho) (by omega)) dX2_frame_18 ?_
  refine go_if_eq hC 28 dX2_frame_19 (by decide) (fun h19 => ?_) (fun h19 => ?_)
  ·
    rw [gm_un1 (by decide)] at h19
    refine go_aload_n hC dX2_frame_28 rfl ?_
    refine go_iconst (v := 0) hC dX2_frame_29 (by decide) ?_
    refine go_puti (ci := 2) hC 7 kwX2_frame_2 rfl tyX2 tyX2_ok nmX2 rfl (by decide) rfl lkX2_frame_152 (by first | decide | (show _ < 5; omega) | (show _ < 10; omega) | omega) rfl rfl rfl dX2_frame_30 ?_
    refine go_aload_n hC dX2_frame_33 rfl ?_
    refine go_geti (ci := 2) hC 8 kwX2_frame_2 rfl rfl (by decide) rfl lkX2_frame_140 (by first | decide | (show _ < 5; omega) | (show _ < 10; omega) | omega) dX2_frame_34 ?_
    refine go_if_eq hC 52 dX2_frame_37 (by decide) (fun h37 => ?_) (fun h37 => ?_)
    ·
      rw [gm_un2 (by decide), gm_un2 (by decide)] at h37
      refine go_aload_n hC dX2_frame_52 rfl ?_
      refine go_geti (ci := 2) hC 11 kwX2_frame_2 rfl rfl (by decide) rfl lkX2_frame_158 (by first | decide | (show _ < 5; omega) | (show _ < 10; omega) | omega) dX2_frame_53 ?_
      refine go_istore_n hC 1 dX2_frame_56 rfl (Nat.le_of_ble_eq_true rfl) ?_
      simp only [gm_s0, gm_s1]
      refine go_aload_n hC dX2_frame_57 rfl ?_
      refine go_callV (n := 0) (k0 := 2) (n0 := 0) hC hX (c_X2_watchErrors (frB M)) gX2_frame_X2_watchErrors rfl (by decide +kernel) ⟨rfl, rfl⟩ (by rw [hR]; exact ⟨by decide, by decide⟩) (by rw [hR]; exact ⟨by decide, by decide⟩) rfl rfl rfl (by first | decide | (show _ < 5; omega) | (show _ < 10; omega) | omega) rfl rfl rfl (Nat.le_of_ble_eq_true rfl) dX2_frame_58 ?_
      simp only [gm_r0, gm_r1]
      refine go_aload_n hC dX2_frame_61 rfl ?_
      refine go_callV (n := 0) (k0 := 2) (n0 := 0) hC hX (c_X2_makeMap (frW M) b (hb h19 h37) hb31) gX2_frame_X2_makeMap rfl (by decide +kernel) ⟨rfl, rfl⟩ (by rw [hR]; exact ⟨by decide, by decide⟩) (by rw [hR]; exact ⟨by decide, by decide⟩) rfl rfl rfl (by first | decide | (show _ < 5; omega) | (show _ < 10; omega) | omega) rfl rfl rfl (Nat.le_of_ble_eq_true rfl) dX2_frame_62 ?_
      simp only [gm_r0, gm_r1]
      refine go_aload_n hC dX2_frame_65 rfl ?_
      refine go_callV (n := 0) (k0 := 2) (n0 := 0) hC hX (c_X2_layBursts _) gX2_frame_X2_layBursts rfl (by decide +kernel) ⟨rfl, rfl⟩ (by rw [hR]; exact ⟨by decide, by decide⟩) (by rw [hR]; exact ⟨by decide, by decide⟩) rfl rfl rfl (by first | decide | (show _ < 5; omega) | (show _ < 10; omega) | omega) rfl rfl rfl (Nat.le_of_ble_eq_true rfl) dX2_frame_66 ?_
      simp only [gm_r0, gm_r1]
      refine go_aload_n hC dX2_frame_69 rfl ?_
      refine go_callV (n := 0) (k0 := 2) (n0 := 0) hC hX (c_X2_countMeetings _) gX2_frame_X2_countMeetings rfl (by decide +kernel) ⟨rfl, rfl⟩ (by rw [hR]; exact ⟨by decide, by decide⟩) (by rw [hR]; exact ⟨by decide, by decide⟩) rfl rfl rfl (by first | decide | (show _ < 5; omega) | (show _ < 10; omega) | omega) rfl rfl rfl (Nat.le_of_ble_eq_true rfl) dX2_frame_70 ?_
      simp only [gm_r0, gm_r1]
      refine go_aload_n hC dX2_frame_73 rfl ?_
      refine go_callV (n := 0) (k0 := 2) (n0 := 0) hC hX (c_X2_sendBlocks (frC M b) (hI h19 h37)) gX2_frame_X2_sendBlocks rfl (by decide +kernel) ⟨rfl, rfl⟩ (by rw [hR]; exact ⟨by decide, by decide⟩) (by rw [hR]; exact ⟨by decide, by decide⟩) rfl rfl rfl (by first | decide | (show _ < 5; omega) | (show _ < 10; omega) | omega) rfl rfl rfl (Nat.le_of_ble_eq_true rfl) dX2_frame_74 ?_
      simp only [gm_r0, gm_r1]
      refine go_aload_n hC dX2_frame_77 rfl ?_
      refine go_callV (n := 0) (k0 := 2) (n0 := 0) hC hX (c_X2_tellDown _) gX2_frame_X2_tellDown rfl (by decide +kernel) ⟨rfl, rfl⟩ (by rw [hR]; exact ⟨by decide, by decide⟩) (by rw [hR]; exact ⟨by decide, by decide⟩) rfl rfl rfl (by first | decide | (show _ < 5; omega) | (show _ < 10; omega) | omega) rfl rfl rfl (Nat.le_of_ble_eq_true rfl) dX2_frame_78 ?_
      simp only [gm_r0, gm_r1]
      refine go_aload_n hC dX2_frame_81 rfl ?_
      refine go_callV (n := 0) (k0 := 2) (n0 := 0) hC hX (c_X2_clearSpoilt _) gX2_frame_X2_clearSpoilt rfl (by decide +kernel) ⟨rfl, rfl⟩ (by rw [hR]; exact ⟨by decide, by decide⟩) (by rw [hR]; exact ⟨by decide, by decide⟩) rfl rfl rfl (by first | decide | (show _ < 5; omega) | (show _ < 10; omega) | omega) rfl rfl rfl (Nat.le_of_ble_eq_true rfl) dX2_frame_82 ?_
      simp only [gm_r0, gm_r1]
      refine go_aload_n hC dX2_frame_85 rfl ?_
      refine go_geti (ci := 2) hC 11 kwX2_frame_2 rfl rfl (by decide) rfl lkX2_frame_158 (by first | decide | (show _ < 5; omega) | (show _ < 10; omega) | omega) dX2_frame_86 ?_
      refine go_iload_n hC dX2_frame_89 rfl ?_
      refine go_isub hC dX2_frame_90 ?_
      refine go_cast ?_ ?_ (hE _ _ dX2_frame_91)
      · rw [show frR M o b = _ from if_pos h19, if_pos h37, gm_un2 (by decide), gm_un2 (by decide)]
        rfl
      · rw [show frM M o b = _ from if_pos h19, if_pos h37]
        rfl
    ·
      rw [gm_un2 (by decide), gm_un2 (by decide)] at h37
      refine go_aload_n hC dX2_frame_40 rfl ?_
      refine go_iconst (v := 0) hC dX2_frame_41 (by decide) ?_
      refine go_puti (ci := 2) hC 8 kwX2_frame_2 rfl tyX2 tyX2_ok nmX2 rfl (by decide) rfl lkX2_frame_140 (by first | decide | (show _ < 5; omega) | (show _ < 10; omega) | omega) rfl (by decide) (by decide) dX2_frame_42 ?_
      refine go_aload_n hC dX2_frame_45 rfl ?_
      refine go_callV (n := 0) (k0 := 2) (n0 := 0) hC hX (c_X2_passQuiet (frQ M)) gX2_frame_X2_passQuiet rfl (by decide +kernel) ⟨rfl, rfl⟩ (by rw [hR]; exact ⟨by decide, by decide⟩) (by rw [hR]; exact ⟨by decide, by decide⟩) rfl rfl rfl (by first | decide | (show _ < 5; omega) | (show _ < 10; omega) | omega) rfl rfl rfl (Nat.le_of_ble_eq_true rfl) dX2_frame_46 ?_
      simp only [gm_r0, gm_r1]
      refine go_bipush (v := (-2)) hC dX2_frame_49 (by decide) ?_
      refine go_cast ?_ ?_ (hE _ _ dX2_frame_51)
      · rw [show frR M o b = _ from if_pos h19, if_neg h37]
      · rw [show frM M o b = _ from if_pos h19, if_neg h37]
  ·
    rw [gm_un1 (by decide)] at h19
    refine go_aload_n hC dX2_frame_22 rfl ?_
    refine go_callV (n := 0) (k0 := 2) (n0 := 0) hC hX (c_X2_passDark (frA M) o ((gm_un2 (by decide)).trans ho) ho1) gX2_frame_X2_passDark rfl (by decide +kernel) ⟨rfl, rfl⟩ (by rw [hR]; exact ⟨by decide, by decide⟩) (by rw [hR]; exact ⟨by decide, by decide⟩) rfl rfl rfl (by first | decide | (show _ < 5; omega) | (show _ < 10; omega) | omega) rfl rfl rfl (Nat.le_of_ble_eq_true rfl) dX2_frame_23 ?_
    simp only [gm_r0, gm_r1]
    refine go_iconst (v := (-1)) hC dX2_frame_26 (by decide) ?_
    refine go_cast ?_ ?_ (hE _ _ dX2_frame_27)
    · rw [show frR M o b = -1 from if_neg h19]
    · rw [show frM M o b = _ from if_neg h19]
end
section
/-! ===== contracts of methods that may throw ===== -/
def sbs : List (Nat × String) := [(39, "serial"), (47, "way"), (55, "no unit is away"), (77, "fixed, assured or most"), (79, "weight"), (92, "more than can be contracted"), (99, "slots"), (104, "blocks"), (112, "no room for a datagram"), (118, "key"), (124, "a key waits"), (138, "feeder"), (200, "what"), (217, "k"), (232, "which"), (234, "unit"), (236, "unit is away"), (238, "container")]
def xNames : List String := ["java/lang/RuntimeException", "java/lang/Exception"]
def xW (ic : Nat) (E : String) : List Cond := vx_atS RX2 ic E xNames
/-- the three that are thrown: the entry of the constructor, the name -/
def xs3 : List (Nat × String) := [(41, "java/lang/IllegalArgumentException"), (57, "java/lang/IllegalStateException"), (219, "java/lang/IndexOutOfBoundsException")]
def xOdd : List Cond := [.castable "java/lang/IllegalArgumentException" "java/lang/IllegalArgumentException", .castable "java/lang/IllegalStateException" "java/lang/IllegalStateException", .castable "java/lang/IndexOutOfBoundsException" "java/lang/IndexOutOfBoundsException", .declares (Bundle.initS "java/lang/RuntimeException"), .declares (Bundle.initS "java/lang/Exception"), .declares (Bundle.initS Bundle.tN)]
theorem xW_odd : ∀ q ∈ xs3, ∀ w ∈ (xW q.1 q.2).filter (fun w => !goodWord w), w ∈ xOdd := by decide +kernel
theorem xW_ot : ∀ q ∈ xs3, ∀ w ∈ xW q.1 q.2, vx_ot w = true := by decide +kernel
theorem xs_fit : ∀ q ∈ xs3, Bundle.fit q.2 = true := by decide +kernel
theorem xn_fit : ∀ n ∈ xNames, Bundle.fit n = true := by decide +kernel
def TW (U : State) : Prop := ∀ w ∈ xOdd, va_Nw w U
theorem TW.warm {s U : State} (hW : s.WarmedH U.vm) (h : TW s) : TW U := by
  intro w hw
  have h1 := h w hw
  simp only [xOdd, List.mem_cons, List.not_mem_nil, or_false] at hw
  rcases hw with rfl | rfl | rfl | rfl | rfl | rfl
  · exact va_Nw.warmC hW h1
  · exact va_Nw.warmC hW h1
  · exact va_Nw.warmC hW h1
  · exact va_Nw.warmD hW h1
  · exact va_Nw.warmD hW h1
  · exact va_Nw.warmD hW h1
theorem TW.use {U : State} {args : Array Value} (h : TW U) : ∀ w ∈ xOdd, w.before args U = true := by
  intro w hw
  have h1 := h w hw
  refine va_Nw.use ?_ h1
  simp only [xOdd, List.mem_cons, List.not_mem_nil, or_false] at hw
  rcases hw with rfl | rfl | rfl | rfl | rfl | rfl <;> rfl
theorem TW.same {u U : State} (hv : u.vm = U.vm) (h : TW u) : TW U := by
  intro w hw
  have h1 := h w hw
  refine va_Nw.same ?_ hv h1
  simp only [xOdd, List.mem_cons, List.not_mem_nil, or_false] at hw
  rcases hw with rfl | rfl | rfl | rfl | rfl | rfl <;> rfl
/-- the texts, Throwable's statics, the odd words -/
def SBH (A : Nat → Prop) (U : State) (H : Heap) : Prop := (∀ q ∈ sbs, ∃ sa, vk_R RX2 q.1 q.2 sa U) ∧ vx_Zq Bundle.tN "UNASSIGNED_STACK" Bundle.steD A U H ∧ vx_Zq Bundle.tN "SUPPRESSED_SENTINEL" Bundle.listD A U H ∧ TW U
theorem SBH.call {A A1 : Nat → Prop} {s U : State} {H : Heap} {locs : List Loc} (h : SBH A s s.heap) (hS : va_S A s.heap H locs) (hA : ∀ q, A1 q → A q) (hW : s.WarmedH U.vm) (hU : U.heap = H) : SBH A1 U U.heap := by
  obtain ⟨h1, h2, h3, h4⟩ := h
  rw [hU]
  refine ⟨fun q hq => ?_, ?_, ?_, TW.warm hW h4⟩
  · obtain ⟨sa, h⟩ := h1 q hq
    exact ⟨sa, vk_R.warm hW h⟩
  · exact vx_Zq.moved hW.alike ((vx_Zq.kept h2 hS.2.1).narrow hA)
  · exact vx_Zq.moved hW.alike ((vx_Zq.kept h3 hS.2.1).narrow hA)
theorem SBH.same {A : Nat → Prop} {u U : State} {H : Heap} (hv : u.vm = U.vm) (h : SBH A u H) : SBH A U H := by
  obtain ⟨h1, h2, h3, h4⟩ := h
  refine ⟨fun q hq => ?_, ?_, ?_, TW.same hv h4⟩
  · obtain ⟨sa, h⟩ := h1 q hq
    exact ⟨sa, vk_R.same hv.symm h⟩
  · exact vx_Zq.moved (by rw [hv]; exact Vm.Alike.refl _) h2
  · exact vx_Zq.moved (by rw [hv]; exact Vm.Alike.refl _) h3
def PX (Ly : gm_L) (D : va_G) (cy : Nat → ClassId) (ad : Nat → Nat → Nat) (as : List Value) (M : gm_M) (sz : Nat) : Array Value → State → Prop := va_Pc as (fun U => U.heap.size = sz ∧ gm_P D Ly cy ad M U.heap ∧ va_K D vwCl (gm_ty cy) U ∧ NW U ∧ SBH (AW Ly ad sz) U U.heap)
def QX (Ly : gm_L) (D : va_G) (cy : Nat → ClassId) (ad : Nat → Nat → Nat) (th : Option String) (v : Option Value) (M' : gm_M) (sz : Nat) : Array Value → State → Outcome → State → Prop := fun _ st oc t => (th = none ∧ oc = .returned v ∧ gm_P D Ly cy ad M' t.heap) ∧ va_F (AW Ly ad sz) st t
def XX (Ly : gm_L) (D : va_G) (cy : Nat → ClassId) (ad : Nat → Nat → Nat) (th : Option String) (M : gm_M) (sz : Nat) : String → State → State → Prop := fun E st t => th = some E ∧ gm_P D Ly cy ad M t.heap ∧ va_F (AW Ly ad sz) st t
/-- a contract: it throws what th says, and then nothing has moved; else as KC -/
def KX (Ly : gm_L) (y : MethodName) (ws : List Cond) (rm : Room) (as : (Nat → Nat → Nat) → List Value) (M : gm_M) (th : Option String) (v : (Nat → Nat → Nat) → Option Value) (M' : gm_M) (mc ms : Nat) : Prop := ∀ (l : Launch), l.stackTraces = false → ∀ (D : va_G) (cy : Nat → ClassId) (ad : Nat → Nat → Nat) (sz : Nat), gm_I Ly ad → vx_Met l y ws rm (PX Ly D cy ad (as ad) M sz) (QX Ly D cy ad th (v ad) M' sz) (XX Ly D cy ad th M sz) mc ms (AW Ly ad sz)
theorem PX.blind {Ly : gm_L} {D : va_G} {cy : Nat → ClassId} {ad : Nat → Nat → Nat} {as : List Value} {M : gm_M} {sz : Nat} : FrameBlind (PX Ly D cy ad as M sz) := fun a U g mk q => by
  obtain ⟨q0, q1, qP, qK, qN, qS⟩ := q
  exact ⟨q0, q1, qP, va_K.moved (u := U) (U := U.calling g mk a) (Vm.Alike.refl U.vm) qK, NW.same (u := U) (U := U.calling g mk a) rfl qN, SBH.same (u := U) (U := U.calling g mk a) rfl qS⟩
/-- what a walk that may throw has beside CX -/
def SX (Ly : gm_L) (X : gm_X) (th : Option String) (M : gm_M) (mc ms : Nat) : Prop := match X with
  | (p, l, e, R, s, m, args, below, meth, c, (D, cy, ad), A, Q) => l.stackTraces = false ∧ SBH A s s.heap ∧ NW s ∧ ∀ (H : Heap) (locs : List Loc) (ls : Array Slot) (pc ce sl : Nat) (rest : List Value) (E : String) (cell : Cell) (q : Addr), th = some E → ce ≤ mc → sl ≤ ms → gm_P D Ly cy ad M H → va_S A s.heap H locs → H[q]? = some cell → cell.vm = .none → s.vm.findClass E = some cell.cls → vx_W p l e R s m args below meth c H locs ce sl Q (F0 m pc ls rest) q
theorem KX.of_i {Ly : gm_L} {y : MethodName} {ws ws' : List Cond} {rm : Room} {cc : ByteArray} {maxL mc ms : Nat} {as : (Nat → Nat → Nat) → List Value} {M M' : gm_M} {th : Option String} {r : Int32} (hy : plainName y.cls = true) (hw : ws = Cond.code y cc maxL (some .int) :: ws') (hown : y.cls = RX2) (hlen : ∀ ad, (as ad).length ≤ maxL) (hcat : ∀ ad, ∀ v ∈ as ad, v.category = 1) 
    (body : ∀ X : gm_X, CX Ly X cc RX2 ws maxL → gm_R X = rm → SX Ly X th M mc ms
      → (∀ (ce sl pc : Nat) (L : List (Option Value)), ce ≤ mc → sl ≤ ms → th = none → decode cc pc = .ok (.ireturn, 1) → GO Ly X ce sl pc L [.int r] M')
      → (∀ (ce sl pc ik is ic : Nat) (E text : String) (L : List (Option Value)), th = some E → ce + 1 ≤ mc → sl + 6 ≤ ms → (ic, E) ∈ xs3 → (is, text) ∈ sbs → Cond.classLink RX2 ik E ∈ ws → Cond.initialized E ∈ ws → (∀ w ∈ (xW ic E).filter goodWord, w ∈ ws) → L.length = maxL → 5 < rm.frames → 82 ≤ rm.locals → ce + 1 ≤ rm.cells → sl + 6 ≤ rm.slots
          → decode cc pc = .ok (.new ik, 3) → decode cc (pc + 3) = .ok (.dup, 1) → decode cc (pc + 4) = .ok (.ldc is, 2) → decode cc (pc + 6) = .ok (.invokespecial ic, 3) → decode cc (pc + 9) = .ok (.athrow, 1) → GO Ly X ce sl pc L [] M)
      → GO Ly X 0 0 0 ((as (gm_ad X)).map some ++ List.replicate (maxL - (as (gm_ad X)).length) none) [] M) : KX Ly y ws rm as M th (fun _ => some (.int r)) M' mc ms := by
  intro l hst D cy ad sz hI
  refine vx_ofW (cc := cc) (maxL := maxL) (ret := some .int) hy hw ?_
  intro p e s m args below meth c s₁ B hml htab hv
  obtain ⟨rfl, hsz, hP, hK, hN, hSB⟩ := hv
  have hx := B.exec
  have hb := B.bytes
  have hr := B.returns
  have hts := atoms_spec (ws := ws) B.pre
  have hown' : s.vm.findClass RX2 = some m.cls := by rw [← hown]; exact findClass_of_methodNamed B.named
  have hlocks := B.notSynchronized
  subst hsz
  have hC : CX Ly (p, l, e, rm, s, m, (as ad).toArray, below, meth, c, (D, cy, ad), AW Ly ad s.heap.size, vx_MQ below (QX Ly D cy ad th ((fun _ => some (.int r)) ad) M' s.heap.size) (XX Ly D cy ad th M s.heap.size) (as ad).toArray s mc ms (AW Ly ad s.heap.size)) cc RX2 ws maxL := ⟨hx, hb, hml, hown', hts, hK, hI, fun k n h => Or.inl ⟨k, n, h, rfl⟩, fun q h => Or.inr h, hlocks⟩
  have hSX : SX Ly (p, l, e, rm, s, m, (as ad).toArray, below, meth, c, (D, cy, ad), AW Ly ad s.heap.size, vx_MQ below (QX Ly D cy ad th ((fun _ => some (.int r)) ad) M' s.heap.size) (XX Ly D cy ad th M s.heap.size) (as ad).toArray s mc ms (AW Ly ad s.heap.size)) th M mc ms := by
    refine ⟨hst, hSB, hN, ?_⟩
    intro H locs ls pc ce sl rest E cell q hth hc1 hc2 hP2 hS2 h1 h2 h3
    exact vx_out (fun x hx => absurd (htab x hx) id) hlocks h1 h2 h3 (fun t ht _ => ⟨hth, by rw [ht]; exact hP2, hS2.F ht⟩) hS2.2.2 hc1 hc2
  have key := body _ hC rfl hSX (by
    intro ce sl pc L h1 h2 hth hd2
    refine go_widen h1 h2 ?_
    intro H locs ls hP2 hS2 hl2
    exact vx_ret (W.iret hx hb hr (fun t ht _ => ⟨⟨hth, rfl, by rw [ht]; exact hP2⟩, hS2.F ht⟩) hS2.2.2 hd2)) (by
    intro ce sl pc ik is ic E text L hth h1 h2 hE hs hk hini hgood hLn hf hlo hcel hslo d0 d3 d4 d6 d9
    intro H locs ls hP2 hS2 hl2
    obtain ⟨sa, hsa⟩ := hSB.1 _ hs
    exact vx_throwS (names := xNames) hx hb hst hown' (xs_fit _ hE) xn_fit (hts _ hk) (hts _ hini) hsa (vx_hat (fun w hw => hts w (hgood w hw)) (xW_odd _ hE) (TW.use hSB.2.2.2)) (fun w hw => by
      rcases List.mem_cons.mp hw with rfl | hw
      · rfl
      · rcases List.mem_cons.mp hw with rfl | hw
        · rfl
        · exact xW_ot _ hE w hw) hSB.2.1 hSB.2.2.1 hS2 (by rw [hl2.1, hLn, hml]) d0 d3 d4 d6 d9 (fun x hx => absurd (htab x hx) id) hf hlo hcel hslo hlocks
      (fun t ht hz hk2 => ⟨hth, gm_P.kept hP2 (fun k n hn => hk2 _ (hP2 k n hn).lt), Nat.le_trans hS2.1 hz, fun q h1 h2 => by rw [hk2 q (Nat.lt_of_lt_of_le h1 hS2.1)]; exact hS2.2.1 q h1 h2⟩) hS2.2.2 h1 h2)
  rw [lg_entry_eq]
  exact key s.heap [] _ hP va_S.rf (gm_entry _ _ (hlen ad) (hcat ad))
theorem KX.of_v {Ly : gm_L} {y : MethodName} {ws ws' : List Cond} {rm : Room} {cc : ByteArray} {maxL mc ms : Nat} {as : (Nat → Nat → Nat) → List Value} {M M' : gm_M} {th : Option String}  (hy : plainName y.cls = true) (hw : ws = Cond.code y cc maxL (none) :: ws') (hown : y.cls = RX2) (hlen : ∀ ad, (as ad).length ≤ maxL) (hcat : ∀ ad, ∀ v ∈ as ad, v.category = 1) 
    (body : ∀ X : gm_X, CX Ly X cc RX2 ws maxL → gm_R X = rm → SX Ly X th M mc ms
      → (∀ (ce sl pc : Nat) (L : List (Option Value)), ce ≤ mc → sl ≤ ms → th = none → decode cc pc = .ok (.return_, 1) → GO Ly X ce sl pc L [] M')
      → (∀ (ce sl pc ik is ic : Nat) (E text : String) (L : List (Option Value)), th = some E → ce + 1 ≤ mc → sl + 6 ≤ ms → (ic, E) ∈ xs3 → (is, text) ∈ sbs → Cond.classLink RX2 ik E ∈ ws → Cond.initialized E ∈ ws → (∀ w ∈ (xW ic E).filter goodWord, w ∈ ws) → L.length = maxL → 5 < rm.frames → 82 ≤ rm.locals → ce + 1 ≤ rm.cells → sl + 6 ≤ rm.slots
          → decode cc pc = .ok (.new ik, 3) → decode cc (pc + 3) = .ok (.dup, 1) → decode cc (pc + 4) = .ok (.ldc is, 2) → decode cc (pc + 6) = .ok (.invokespecial ic, 3) → decode cc (pc + 9) = .ok (.athrow, 1) → GO Ly X ce sl pc L [] M)
      → GO Ly X 0 0 0 ((as (gm_ad X)).map some ++ List.replicate (maxL - (as (gm_ad X)).length) none) [] M) : KX Ly y ws rm as M th (fun _ => none) M' mc ms := by
  intro l hst D cy ad sz hI
  refine vx_ofW (cc := cc) (maxL := maxL) (ret := none) hy hw ?_
  intro p e s m args below meth c s₁ B hml htab hv
  obtain ⟨rfl, hsz, hP, hK, hN, hSB⟩ := hv
  have hx := B.exec
  have hb := B.bytes
  have hr := B.returns
  have hts := atoms_spec (ws := ws) B.pre
  have hown' : s.vm.findClass RX2 = some m.cls := by rw [← hown]; exact findClass_of_methodNamed B.named
  have hlocks := B.notSynchronized
  subst hsz
  have hC : CX Ly (p, l, e, rm, s, m, (as ad).toArray, below, meth, c, (D, cy, ad), AW Ly ad s.heap.size, vx_MQ below (QX Ly D cy ad th ((fun _ => none) ad) M' s.heap.size) (XX Ly D cy ad th M s.heap.size) (as ad).toArray s mc ms (AW Ly ad s.heap.size)) cc RX2 ws maxL := ⟨hx, hb, hml, hown', hts, hK, hI, fun k n h => Or.inl ⟨k, n, h, rfl⟩, fun q h => Or.inr h, hlocks⟩
  have hSX : SX Ly (p, l, e, rm, s, m, (as ad).toArray, below, meth, c, (D, cy, ad), AW Ly ad s.heap.size, vx_MQ below (QX Ly D cy ad th ((fun _ => none) ad) M' s.heap.size) (XX Ly D cy ad th M s.heap.size) (as ad).toArray s mc ms (AW Ly ad s.heap.size)) th M mc ms := by
    refine ⟨hst, hSB, hN, ?_⟩
    intro H locs ls pc ce sl rest E cell q hth hc1 hc2 hP2 hS2 h1 h2 h3
    exact vx_out (fun x hx => absurd (htab x hx) id) hlocks h1 h2 h3 (fun t ht _ => ⟨hth, by rw [ht]; exact hP2, hS2.F ht⟩) hS2.2.2 hc1 hc2
  have key := body _ hC rfl hSX (by
    intro ce sl pc L h1 h2 hth hd2
    refine go_widen h1 h2 ?_
    intro H locs ls hP2 hS2 hl2
    exact vx_ret (W.vret hx hb hr (fun t ht _ => ⟨⟨hth, rfl, by rw [ht]; exact hP2⟩, hS2.F ht⟩) hS2.2.2 hd2)) (by
    intro ce sl pc ik is ic E text L hth h1 h2 hE hs hk hini hgood hLn hf hlo hcel hslo d0 d3 d4 d6 d9
    intro H locs ls hP2 hS2 hl2
    obtain ⟨sa, hsa⟩ := hSB.1 _ hs
    exact vx_throwS (names := xNames) hx hb hst hown' (xs_fit _ hE) xn_fit (hts _ hk) (hts _ hini) hsa (vx_hat (fun w hw => hts w (hgood w hw)) (xW_odd _ hE) (TW.use hSB.2.2.2)) (fun w hw => by
      rcases List.mem_cons.mp hw with rfl | hw
      · rfl
      · rcases List.mem_cons.mp hw with rfl | hw
        · rfl
        · exact xW_ot _ hE w hw) hSB.2.1 hSB.2.2.1 hS2 (by rw [hl2.1, hLn, hml]) d0 d3 d4 d6 d9 (fun x hx => absurd (htab x hx) id) hf hlo hcel hslo hlocks
      (fun t ht hz hk2 => ⟨hth, gm_P.kept hP2 (fun k n hn => hk2 _ (hP2 k n hn).lt), Nat.le_trans hS2.1 hz, fun q h1 h2 => by rw [hk2 q (Nat.lt_of_lt_of_le h1 hS2.1)]; exact hS2.2.1 q h1 h2⟩) hS2.2.2 h1 h2)
  rw [lg_entry_eq]
  exact key s.heap [] _ hP va_S.rf (gm_entry _ _ (hlen ad) (hcat ad))
theorem KX.of_a {Ly : gm_L} {y : MethodName} {ws ws' : List Cond} {rm : Room} {cc : ByteArray} {maxL mc ms : Nat} {as : (Nat → Nat → Nat) → List Value} {M M' : gm_M} {th : Option String} {rc : String} {rv : (Nat → Nat → Nat) → Value} (hy : plainName y.cls = true) (hw : ws = Cond.code y cc maxL (some (.object rc)) :: ws') (hown : y.cls = RX2) (hlen : ∀ ad, (as ad).length ≤ maxL) (hcat : ∀ ad, ∀ v ∈ as ad, v.category = 1) (hrv : ∀ ad, rv ad = .null ∨ ∃ a, rv ad = .ref a)
    (body : ∀ X : gm_X, CX Ly X cc RX2 ws maxL → gm_R X = rm → SX Ly X th M mc ms
      → (∀ (ce sl pc : Nat) (L : List (Option Value)), ce ≤ mc → sl ≤ ms → th = none → decode cc pc = .ok (.areturn, 1) → GO Ly X ce sl pc L [rv (gm_ad X)] M')
      → (∀ (ce sl pc ik is ic : Nat) (E text : String) (L : List (Option Value)), th = some E → ce + 1 ≤ mc → sl + 6 ≤ ms → (ic, E) ∈ xs3 → (is, text) ∈ sbs → Cond.classLink RX2 ik E ∈ ws → Cond.initialized E ∈ ws → (∀ w ∈ (xW ic E).filter goodWord, w ∈ ws) → L.length = maxL → 5 < rm.frames → 82 ≤ rm.locals → ce + 1 ≤ rm.cells → sl + 6 ≤ rm.slots
          → decode cc pc = .ok (.new ik, 3) → decode cc (pc + 3) = .ok (.dup, 1) → decode cc (pc + 4) = .ok (.ldc is, 2) → decode cc (pc + 6) = .ok (.invokespecial ic, 3) → decode cc (pc + 9) = .ok (.athrow, 1) → GO Ly X ce sl pc L [] M)
      → GO Ly X 0 0 0 ((as (gm_ad X)).map some ++ List.replicate (maxL - (as (gm_ad X)).length) none) [] M) : KX Ly y ws rm as M th (fun ad => some (rv ad)) M' mc ms := by
  intro l hst D cy ad sz hI
  refine vx_ofW (cc := cc) (maxL := maxL) (ret := some (.object rc)) hy hw ?_
  intro p e s m args below meth c s₁ B hml htab hv
  obtain ⟨rfl, hsz, hP, hK, hN, hSB⟩ := hv
  have hx := B.exec
  have hb := B.bytes
  have hr := B.returns
  have hts := atoms_spec (ws := ws) B.pre
  have hown' : s.vm.findClass RX2 = some m.cls := by rw [← hown]; exact findClass_of_methodNamed B.named
  have hlocks := B.notSynchronized
  subst hsz
  have hC : CX Ly (p, l, e, rm, s, m, (as ad).toArray, below, meth, c, (D, cy, ad), AW Ly ad s.heap.size, vx_MQ below (QX Ly D cy ad th ((fun ad => some (rv ad)) ad) M' s.heap.size) (XX Ly D cy ad th M s.heap.size) (as ad).toArray s mc ms (AW Ly ad s.heap.size)) cc RX2 ws maxL := ⟨hx, hb, hml, hown', hts, hK, hI, fun k n h => Or.inl ⟨k, n, h, rfl⟩, fun q h => Or.inr h, hlocks⟩
  have hSX : SX Ly (p, l, e, rm, s, m, (as ad).toArray, below, meth, c, (D, cy, ad), AW Ly ad s.heap.size, vx_MQ below (QX Ly D cy ad th ((fun ad => some (rv ad)) ad) M' s.heap.size) (XX Ly D cy ad th M s.heap.size) (as ad).toArray s mc ms (AW Ly ad s.heap.size)) th M mc ms := by
    refine ⟨hst, hSB, hN, ?_⟩
    intro H locs ls pc ce sl rest E cell q hth hc1 hc2 hP2 hS2 h1 h2 h3
    exact vx_out (fun x hx => absurd (htab x hx) id) hlocks h1 h2 h3 (fun t ht _ => ⟨hth, by rw [ht]; exact hP2, hS2.F ht⟩) hS2.2.2 hc1 hc2
  have key := body _ hC rfl hSX (by
    intro ce sl pc L h1 h2 hth hd2
    refine go_widen h1 h2 ?_
    intro H locs ls hP2 hS2 hl2
    exact vx_ret (W.aret hx hb hr (Or.inl ⟨rc, rfl⟩) (hrv ad) (fun t ht _ => ⟨⟨hth, rfl, by rw [ht]; exact hP2⟩, hS2.F ht⟩) hS2.2.2 hd2)) (by
    intro ce sl pc ik is ic E text L hth h1 h2 hE hs hk hini hgood hLn hf hlo hcel hslo d0 d3 d4 d6 d9
    intro H locs ls hP2 hS2 hl2
    obtain ⟨sa, hsa⟩ := hSB.1 _ hs
    exact vx_throwS (names := xNames) hx hb hst hown' (xs_fit _ hE) xn_fit (hts _ hk) (hts _ hini) hsa (vx_hat (fun w hw => hts w (hgood w hw)) (xW_odd _ hE) (TW.use hSB.2.2.2)) (fun w hw => by
      rcases List.mem_cons.mp hw with rfl | hw
      · rfl
      · rcases List.mem_cons.mp hw with rfl | hw
        · rfl
        · exact xW_ot _ hE w hw) hSB.2.1 hSB.2.2.1 hS2 (by rw [hl2.1, hLn, hml]) d0 d3 d4 d6 d9 (fun x hx => absurd (htab x hx) id) hf hlo hcel hslo hlocks
      (fun t ht hz hk2 => ⟨hth, gm_P.kept hP2 (fun k n hn => hk2 _ (hP2 k n hn).lt), Nat.le_trans hS2.1 hz, fun q h1 h2 => by rw [hk2 q (Nat.lt_of_lt_of_le h1 hS2.1)]; exact hS2.2.1 q h1 h2⟩) hS2.2.2 h1 h2)
  rw [lg_entry_eq]
  exact key s.heap [] _ hP va_S.rf (gm_entry _ _ (hlen ad) (hcat ad))
section GX
variable {Ly : gm_L} {X : gm_X} {cc : ByteArray} {own : String} {Ts : List Cond} {nL ce sl pc : Nat} {L : List (Option Value)} {rest : List Value} {M M' : gm_M}
theorem gm_afterX {p : Program} {l : Launch} {e : Env} {R : Room} {s : State} {m : MethodId} {args : Array Value} {below : List Frame} {meth : Method} {c : Code} {D : va_G} {cy : Nat → ClassId} {ad : Nat → Nat → Nat} {A : Nat → Prop} {Q : State → Prop} {th th1 : Option String} {v : Option Value} {a : Array Value} {H : Heap} {locs : List Loc} {ls : Array Slot} {st : List Value} {mc ms mc1 ms1 : Nat}
    (hAd : ∀ k n : Nat, n < (Ly k).1 → A (ad k n)) (hA : ∀ q : Nat, s.heap.size ≤ q → A q) (hS : va_S A s.heap H locs) (hl : gm_ls ls L)
    (hSX : SX Ly (p, l, e, R, s, m, args, below, meth, c, (D, cy, ad), A, Q) th M mc ms) (hm1 : ce + mc1 ≤ mc) (hm2 : sl + ms1 ≤ ms)
    (hr : vx_Run p l e R s m args below meth c H locs ce sl mc1 ms1 (F0 m pc ls st) rest (QX Ly D cy ad th1 v M' H.size a) (XX Ly D cy ad th1 M H.size) (AW Ly ad H.size))
    (kx : ∀ E, th1 = some E → th = some E)
    (kk : th1 = none → GO Ly (p, l, e, R, s, m, args, below, meth, c, (D, cy, ad), A, Q) (ce + mc1) (sl + ms1) (pc + 3) L (v.toList ++ rest) M') : W p l e R s m args below meth c H locs ce sl Q (F0 m pc ls st) := by
  intro T hT XX9
  have hAi := AW.in (Ly := Ly) (ad := ad) hAd hA hS
  rcases hr T hT XX9 with ⟨v2, st₀, t, T', L', h0, X', hL', e1, e2, ⟨⟨hn, hv, hPB⟩, hF⟩, go⟩ | ⟨q, st₀, t, T', L', E, cell, h0, X', hL', e1, e2, ⟨hth1, hPB, hF⟩, hce, hcv, hcl, go⟩
  · cases hv
    obtain ⟨k1, k2, k3⟩ := vx_keep h0 e1 hS (fun q _ h => hAi q h) hAi hL' hF
    obtain ⟨t2, a1, b1⟩ := kk hn T'.heap (locs ++ L') ls (by rw [e1]; exact hPB) k3 hl T' rfl X'
    exact ⟨t2, go t2 a1, b1⟩
  · obtain ⟨k1, k2, k3⟩ := vx_keep h0 e1 hS (fun q _ h => hAi q h) hAi hL' hF
    obtain ⟨t2, a1, b1⟩ := hSX.2.2.2 T'.heap (locs ++ L') ls pc (ce + mc1) (sl + ms1) rest E cell q (kx E hth1) hm1 hm2 (by rw [e1]; exact hPB) k3 (by rw [e1]; exact hce) hcv hcl T' rfl X'
    exact ⟨t2, go.trans a1, b1⟩
/-- a call of an instance method of ours that may throw -/
theorem go_callVX (hC : CX Ly X cc own Ts nL) {th th1 : Option String} {mc ms mc1 ms1 : Nat} (hSX : SX Ly X th M mc ms) {y : MethodName} {ws ws' : List Cond} {rm : Room} {as : (Nat → Nat → Nat) → List Value} {v : (Nat → Nat → Nat) → Option Value} {bytes : ByteArray} {maxL n index k0 n0 ci N : Nat} {ret : Option FieldType} {C : String} {T : u_T} {sr : Nat → Option Nat} {As st : List Value}
    (hM : KX Ly y ws rm as M th1 v M' mc1 ms1) (hG : GoodIn Ts (wsV own index C y ws)) (hw : ws = Cond.code y bytes maxL ret :: ws') (hd : y.cls = C ∧ y.cls ≠ "java/lang/invoke/MethodHandle" ∧ y.cls ≠ "java/lang/invoke/VarHandle" ∧ (parseMethodDescriptor y.desc).map (fun d => d.parameters.length) = some n) (hcs : rm.cells = mc1 ∧ rm.slots = ms1) (hR : rm.frames + 1 ≤ (gm_R X).frames ∧ 8 + (maxL + 11) + rm.locals ≤ (gm_R X).locals) (hf : ce + mc1 ≤ (gm_R X).cells ∧ sl + ms1 ≤ (gm_R X).slots) (hLn : L.length = nL) (hm1 : ce + mc1 ≤ mc) (hm2 : sl + ms1 ≤ ms)
    (hk : (Ly k0).2 = .inl (ci, N, sr)) (hc : vwCl[ci]? = some (C, T, N)) (hn0 : n0 < (Ly k0).1) (has : as (gm_ad X) = .ref (gm_ad X k0 n0) :: As) (hn : As.length = n) (hst : st = As.reverse ++ .ref (gm_ad X k0 n0) :: rest) (hcat : (rest.map fun v => v.category).sum ≤ 8) (hdg : decode cc pc = .ok (.invokevirtual index, 3))
    (kx : ∀ E, th1 = some E → th = some E) (kk : th1 = none → GO Ly X (ce + mc1) (sl + ms1) (pc + 3) L ((v (gm_ad X)).toList ++ rest) M') : GO Ly X ce sl pc L st M := by
  obtain ⟨p, l, e, R, s, m, args, below, meth, c, ⟨D, cy, ad⟩, A, Q⟩ := X
  obtain ⟨hx, hb, hml, hown, hts, hK, hI, hAd, hA, hlk⟩ := hC
  intro H locs ls hP hS hl
  have h1 := hP k0 n0 hn0
  rw [gm_at_o hk] at h1
  have has' : as ad = .ref (ad k0 n0) :: As := has
  have hM' := hM l hSX.1 D cy ad H.size hI
  rw [has'] at hM'
  exact gm_afterX hAd hA hS hl hSX hm1 hm2 (vx_runV (As := As) (rest := rest) ⟨hx, hb, hml, hown, hts⟩ hM' (cwV n hts hG hw hcs.1 hcs.2 hd hR) ⟨PX.blind, va_recv hK (gm_one h1) (ci := ci) (q0 := 0) hc rfl, fun U hU hW => ⟨rfl, by rw [hU], by rw [hU]; exact hP, va_K.moved hW.alike hK, NW.warm hW hSX.2.2.1, hSX.2.1.call hS (AW.in hAd hA hS) hW hU⟩⟩ rfl hn (hl.1.trans hLn) hst (lv_room hcat) hdg hf) kx kk
/-- a call of a static method of the class that may throw -/
theorem go_callSX (hC : CX Ly X cc own Ts nL) {th th1 : Option String} {mc ms mc1 ms1 : Nat} (hSX : SX Ly X th M mc ms) {y : MethodName} {ws ws' : List Cond} {rm : Room} {as : (Nat → Nat → Nat) → List Value} {v : (Nat → Nat → Nat) → Option Value} {bytes : ByteArray} {maxL n index : Nat} {ret : Option FieldType} {As st : List Value}
    (hM : KX Ly y ws rm as M th1 v M' mc1 ms1) (hG : GoodIn Ts (va_wsS own index y ws)) (hw : ws = Cond.code y bytes maxL ret :: ws') (hd : y.cls ≠ "java/lang/invoke/MethodHandle" ∧ y.cls ≠ "java/lang/invoke/VarHandle" ∧ (parseMethodDescriptor y.desc).map (fun d => d.parameters.length) = some n) (hcs : rm.cells = mc1 ∧ rm.slots = ms1) (hR : rm.frames + 1 ≤ (gm_R X).frames ∧ 8 + (maxL + 11) + rm.locals ≤ (gm_R X).locals) (hf : ce + mc1 ≤ (gm_R X).cells ∧ sl + ms1 ≤ (gm_R X).slots) (hLn : L.length = nL) (hm1 : ce + mc1 ≤ mc) (hm2 : sl + ms1 ≤ ms)
    (has : as (gm_ad X) = As) (hn : As.length = n) (hst : st = As.reverse ++ rest) (hcat : (rest.map fun v => v.category).sum ≤ 8) (hdg : decode cc pc = .ok (.invokestatic index, 3))
    (kx : ∀ E, th1 = some E → th = some E) (kk : th1 = none → GO Ly X (ce + mc1) (sl + ms1) (pc + 3) L ((v (gm_ad X)).toList ++ rest) M') : GO Ly X ce sl pc L st M := by
  obtain ⟨p, l, e, R, s, m, args, below, meth, c, ⟨D, cy, ad⟩, A, Q⟩ := X
  obtain ⟨hx, hb, hml, hown, hts, hK, hI, hAd, hA, hlk⟩ := hC
  intro H locs ls hP hS hl
  have has' : as ad = As := has
  have hM' := hM l hSX.1 D cy ad H.size hI
  rw [has'] at hM'
  exact gm_afterX hAd hA hS hl hSX hm1 hm2 (vx_runS (As := As) (rest := rest) ⟨hx, hb, hml, hown, hts⟩ hM' (va_cwS n hts hG hw hcs.1 hcs.2 hd hR) ⟨PX.blind, fun U hU hW => ⟨rfl, by rw [hU], by rw [hU]; exact hP, va_K.moved hW.alike hK, NW.warm hW hSX.2.2.1, hSX.2.1.call hS (AW.in hAd hA hS) hW hU⟩⟩ rfl hn (hl.1.trans hLn) hst (lv_room hcat) hdg hf) kx kk
end GX
end
section
/-! ===== the class: the calls that may throw ===== -/
noncomputable def thF (P : Prop) (E : String) (r : Option String) : Option String := @ite _ P (Classical.propDecidable P) (some E) r
theorem thF_t {P : Prop} {E : String} {r : Option String} (h : P) : thF P E r = some E := if_pos h
theorem thF_f {P : Prop} {E : String} {r : Option String} (h : ¬ P) : thF P E r = r := if_neg h
theorem thF_some {P : Prop} {E E' : String} (h : thF P E none = some E') : P ∧ E = E' := by
  by_cases hp : P
  · rw [thF_t hp] at h; exact ⟨hp, Option.some.inj h⟩
  · rw [thF_f hp] at h; cases h
theorem thF_none {P : Prop} {E : String} (h : thF P E none = none) : ¬ P := fun hp => by rw [thF_t hp] at h; cases h
theorem SX.nx {Ly : gm_L} {X : gm_X} {th : Option String} {M : gm_M} {mc ms : Nat} (h : SX Ly X th M mc ms) : NX X := by
  obtain ⟨p, l, e, R, s, m, args, below, meth, c, ⟨D, cy, ad⟩, A, Q⟩ := X
  exact h.2.2.1
abbrev uN (u : Int32) : Nat := u.toNatClampNeg
abbrev bU (u : Int32) : Prop := u < 0 ∨ ¬ u < 5
abbrev aW (M : gm_M) (u : Int32) : Prop := bU u ∨ M 1 1 (uN u) = 0
abbrev bC (c : Int32) : Prop := c < 0 ∨ ¬ c < 2
theorem ixN {u : Int32} (n : Nat) (hn : n < 2 ^ 31) (h1 : ¬ u < 0) (h2 : u < nI n) : u = nI (uN u) ∧ uN u < n := by
  obtain ⟨j, hj, rfl⟩ := nI_of h1
  rw [show uN (nI j) = j from nI_clamp hj]
  exact ⟨rfl, (nI_ltI hj hn).mp h2⟩
theorem bU_ix {u : Int32} (h : ¬ bU u) : u = nI (uN u) ∧ uN u < 5 := ixN 5 (by decide) (fun q => h (Or.inl q)) (Classical.byContradiction (fun q => h (Or.inr q)))
theorem bC_ix {u : Int32} (h : ¬ bC u) : u = nI (uN u) ∧ uN u < 2 := ixN 2 (by decide) (fun q => h (Or.inl q)) (Classical.byContradiction (fun q => h (Or.inr q)))
theorem swOut (x : Int32) (n : Nat) (hn : n < 2 ^ 31) (h : ∀ k, k ≤ n → ¬ x = nI k) : x.toInt < 0 ∨ (n : Int) < x.toInt := by
  by_cases h0 : x < 0
  · left
    have := Int32.lt_iff_toInt_lt.mp h0
    simpa using this
  · right
    obtain ⟨j, hj, rfl⟩ := nI_of h0
    rw [nI_toInt hj]
    rcases Nat.lt_or_ge n j with q | q
    · omega
    · exact absurd rfl (h j q)
theorem kwX2_numbered_2 : ∀ w ∈ wsX20, w ∈ wsX2_numbered := by decide +kernel
theorem lkX2_numbered_11 : Cond.fieldLink RX2 11 "SharedFibre" "units" "[LSharedFibre$Unit;" ∈ wsX2_numbered := by decide +kernel
theorem ltX2_numbered_Ii : Cond.initialized "java/lang/IllegalArgumentException" ∈ wsX2_numbered := by decide +kernel
theorem ltX2_numbered_Ik : Cond.classLink RX2 37 "java/lang/IllegalArgumentException" ∈ wsX2_numbered := by decide +kernel
theorem ltX2_numbered_Ig : ∀ w ∈ (xW 41 "java/lang/IllegalArgumentException").filter goodWord, w ∈ wsX2_numbered := by
  intro w h
  first | exact List.mem_cons_of_mem _ (List.mem_append_right _ h) | exact List.mem_cons_of_mem _ (List.mem_append_left _ (List.mem_append_right _ h)) | exact List.mem_cons_of_mem _ (List.mem_append_left _ (List.mem_append_left _ (List.mem_append_right _ h)))
set_option maxHeartbeats 4000000 in
set_option maxRecDepth 100000 in
/-- X2_numbered -/
theorem c_X2_numbered (M : gm_M) (u : Int32) : KX lyC yX2_numbered wsX2_numbered ({ frames := 6, cells := 1, slots := 6, locals := 90 }) (fun ad => [.ref (ad 2 0), .int u]) M (thF (bU u) "java/lang/IllegalArgumentException" none) (fun ad => some (.ref (ad 1 (uN u)))) (M) 1 6 := by
  refine KX.of_a (by decide) rfl rfl (fun _ => by simp) (fun _ => by simp [Value.category]) (rv := fun ad => .ref (ad 1 (uN u))) (fun ad => Or.inr ⟨_, rfl⟩) ?_
  intro X hC hR hSX hE hT
  have hX := hSX.nx
  simp only [List.map_cons, List.map_nil, List.cons_append, List.nil_append, List.length_cons, List.length_nil, List.replicate, Nat.reduceAdd, Nat.reduceSub]
  refine go_iload_n hC dX2_numbered_0 rfl ?_
  refine go_if_lt hC 9 dX2_numbered_1 (by decide) (fun h1 => ?_) (fun h1 => ?_)
  ·
    exact hT _ _ _ _ _ _ "java/lang/IllegalArgumentException" "unit" _ (thF_t (by first | exact Or.inl h1 | exact Or.inr h6)) (by decide) (by decide) (by decide) (by decide) ltX2_numbered_Ik ltX2_numbered_Ii ltX2_numbered_Ig rfl (by decide) (by decide) (by decide) (by decide) dX2_numbered_9 dX2_numbered_12 dX2_numbered_13 dX2_numbered_15 dX2_numbered_18
  ·
    refine go_iload_n hC dX2_numbered_4 rfl ?_
    refine go_iconst (v := 5) hC dX2_numbered_5 (by decide) ?_
    refine go_icmp_lt hC 19 dX2_numbered_6 (by decide) (fun h6 => ?_) (fun h6 => ?_)
    ·
      have hnb : ¬ bU u := fun q => q.elim h1 (fun q => q h6)
      obtain ⟨hue, hu5⟩ := bU_ix hnb
      refine go_aload_n hC dX2_numbered_19 rfl ?_
      refine go_getr (ci := 2) hC 0 kwX2_numbered_2 rfl rfl (by decide) rfl lkX2_numbered_11 (by first | decide | (show _ < 5; omega) | (show _ < 10; omega) | omega) dX2_numbered_20 ?_
      refine go_iload_n hC dX2_numbered_23 rfl ?_
      refine go_aald hC rfl (fun _ => rfl) (by first | decide | (show _ < 5; omega) | (show _ < 10; omega) | omega) (gm_in hue (by omega) (by decide)) (gm_cu hue (by omega)) dX2_numbered_24 ?_
      refine go_cast ?_ ?_ (hE _ _ _ _ (by decide) (by decide) (thF_f hnb) dX2_numbered_25)
      · first | rfl | (simp [*]; done)
      · first | rfl | (simp [*]; done)
    ·
      exact hT _ _ _ _ _ _ "java/lang/IllegalArgumentException" "unit" _ (thF_t (by first | exact Or.inl h1 | exact Or.inr h6)) (by decide) (by decide) (by decide) (by decide) ltX2_numbered_Ik ltX2_numbered_Ii ltX2_numbered_Ig rfl (by decide) (by decide) (by decide) (by decide) dX2_numbered_9 dX2_numbered_12 dX2_numbered_13 dX2_numbered_15 dX2_numbered_18
theorem kwX2_plugged_1 : ∀ w ∈ wsX10, w ∈ wsX2_plugged := by decide +kernel
theorem lkX2_plugged_58 : Cond.fieldLink RX2 58 "SharedFibre$Unit" "state" "I" ∈ wsX2_plugged := by decide +kernel
theorem ltX2_plugged_Ii : Cond.initialized "java/lang/IllegalArgumentException" ∈ wsX2_plugged := by decide +kernel
theorem ltX2_plugged_Ik : Cond.classLink RX2 37 "java/lang/IllegalArgumentException" ∈ wsX2_plugged := by decide +kernel
theorem ltX2_plugged_Ig : ∀ w ∈ (xW 41 "java/lang/IllegalArgumentException").filter goodWord, w ∈ wsX2_plugged := by
  intro w h
  first | exact List.mem_cons_of_mem _ (List.mem_append_right _ h) | exact List.mem_cons_of_mem _ (List.mem_append_left _ (List.mem_append_right _ h)) | exact List.mem_cons_of_mem _ (List.mem_append_left _ (List.mem_append_left _ (List.mem_append_right _ h)))
set_option maxHeartbeats 4000000 in
set_option maxRecDepth 100000 in
/-- X2_plugged -/
theorem c_X2_plugged (M : gm_M) (u : Int32) : KX lyC yX2_plugged wsX2_plugged ({ frames := 7, cells := 2, slots := 12, locals := 111 }) (fun ad => [.ref (ad 2 0), .int u]) M (thF (aW M u) "java/lang/IllegalArgumentException" none) (fun ad => some (.ref (ad 1 (uN u)))) (M) 2 12 := by
  refine KX.of_a (by decide) rfl rfl (fun _ => by simp) (fun _ => by simp [Value.category]) (rv := fun ad => .ref (ad 1 (uN u))) (fun ad => Or.inr ⟨_, rfl⟩) ?_
  intro X hC hR hSX hE hT
  have hX := hSX.nx
  simp only [List.map_cons, List.map_nil, List.cons_append, List.nil_append, List.length_cons, List.length_nil, List.replicate, Nat.reduceAdd, Nat.reduceSub]
  refine go_aload_n hC dX2_plugged_0 rfl ?_
  refine go_iload_n hC dX2_plugged_1 rfl ?_
  refine go_callVX (n := 1) (k0 := 2) (n0 := 0) hC hSX (c_X2_numbered M u) gX2_plugged_X2_numbered rfl (by decide +kernel) ⟨rfl, rfl⟩ (by rw [hR]; exact ⟨by decide, by decide⟩) (by rw [hR]; exact ⟨by decide, by decide⟩) rfl (by decide) (by decide) rfl rfl (by first | decide | (show _ < 5; omega) | (show _ < 10; omega) | omega) rfl rfl rfl (Nat.le_of_ble_eq_true rfl) dX2_plugged_2 (fun E h => by obtain ⟨hp, rfl⟩ := thF_some h; exact thF_t (Or.inl hp)) (fun hn2 => ?_)
  simp only [gm_r0, gm_r1]
  obtain ⟨hue, hu5⟩ := bU_ix (thF_none hn2)
  refine go_astore_n hC 2 dX2_plugged_5 rfl (Nat.le_of_ble_eq_true rfl) ?_
  simp only [gm_s0, gm_s1]
  refine go_aload_n hC dX2_plugged_6 rfl ?_
  refine go_geti (ci := 1) hC 1 kwX2_plugged_1 rfl rfl (by decide) rfl lkX2_plugged_58 (by first | decide | (show _ < 5; omega) | (show _ < 10; omega) | omega) dX2_plugged_7 ?_
  refine go_if_ne hC 23 dX2_plugged_10 (by decide) (fun h10 => ?_) (fun h10 => ?_)
  ·
    refine go_aload_n hC dX2_plugged_23 rfl ?_
    refine go_cast ?_ ?_ (hE _ _ _ _ (by decide) (by decide) (thF_f (fun q => q.elim (thF_none hn2) h10)) dX2_plugged_24)
    · first | rfl | (simp [*]; done)
    · first | rfl | (simp [*]; done)
  ·
    exact hT _ _ _ _ _ _ "java/lang/IllegalArgumentException" "unit is away" _ (thF_t (Or.inr h10)) (by decide) (by decide) (by decide) (by decide) ltX2_plugged_Ik ltX2_plugged_Ii ltX2_plugged_Ig rfl (by decide) (by decide) (by decide) (by decide) dX2_plugged_13 dX2_plugged_16 dX2_plugged_17 dX2_plugged_19 dX2_plugged_22
theorem kwX2_containerOf_1 : ∀ w ∈ wsX10, w ∈ wsX2_containerOf := by decide +kernel
theorem lkX2_containerOf_240 : Cond.fieldLink RX2 240 "SharedFibre$Unit" "containers" "[LSharedFibre$Container;" ∈ wsX2_containerOf := by decide +kernel
theorem ltX2_containerOf_Ii : Cond.initialized "java/lang/IllegalArgumentException" ∈ wsX2_containerOf := by decide +kernel
theorem ltX2_containerOf_Ik : Cond.classLink RX2 37 "java/lang/IllegalArgumentException" ∈ wsX2_containerOf := by decide +kernel
theorem ltX2_containerOf_Ig : ∀ w ∈ (xW 41 "java/lang/IllegalArgumentException").filter goodWord, w ∈ wsX2_containerOf := by
  intro w h
  first | exact List.mem_cons_of_mem _ (List.mem_append_right _ h) | exact List.mem_cons_of_mem _ (List.mem_append_left _ (List.mem_append_right _ h)) | exact List.mem_cons_of_mem _ (List.mem_append_left _ (List.mem_append_left _ (List.mem_append_right _ h)))
set_option maxHeartbeats 4000000 in
set_option maxRecDepth 100000 in
/-- X2_containerOf -/
theorem c_X2_containerOf (M : gm_M) (n : Nat) (hn : n < 5) (c : Int32) : KX lyC yX2_containerOf wsX2_containerOf ({ frames := 6, cells := 1, slots := 6, locals := 90 }) (fun ad => [.ref (ad 1 n), .int c]) M (thF (bC c) "java/lang/IllegalArgumentException" none) (fun ad => some (.ref (ad 0 (2 * n + uN c)))) (M) 1 6 := by
  refine KX.of_a (by decide) rfl rfl (fun _ => by simp) (fun _ => by simp [Value.category]) (rv := fun ad => .ref (ad 0 (2 * n + uN c))) (fun ad => Or.inr ⟨_, rfl⟩) ?_
  intro X hC hR hSX hE hT
  have hX := hSX.nx
  simp only [List.map_cons, List.map_nil, List.cons_append, List.nil_append, List.length_cons, List.length_nil, List.replicate, Nat.reduceAdd, Nat.reduceSub]
  refine go_iload_n hC dX2_containerOf_0 rfl ?_
  refine go_if_lt hC 9 dX2_containerOf_1 (by decide) (fun h1 => ?_) (fun h1 => ?_)
  ·
    exact hT _ _ _ _ _ _ "java/lang/IllegalArgumentException" "container" _ (thF_t (by first | exact Or.inl h1 | exact Or.inr h6)) (by decide) (by decide) (by decide) (by decide) ltX2_containerOf_Ik ltX2_containerOf_Ii ltX2_containerOf_Ig rfl (by decide) (by decide) (by decide) (by decide) dX2_containerOf_9 dX2_containerOf_12 dX2_containerOf_13 dX2_containerOf_15 dX2_containerOf_18
  ·
    refine go_iload_n hC dX2_containerOf_4 rfl ?_
    refine go_iconst (v := 2) hC dX2_containerOf_5 (by decide) ?_
    refine go_icmp_lt hC 19 dX2_containerOf_6 (by decide) (fun h6 => ?_) (fun h6 => ?_)
    ·
      have hnb : ¬ bC c := fun q => q.elim h1 (fun q => q h6)
      obtain ⟨hce, hc2⟩ := bC_ix hnb
      refine go_aload_n hC dX2_containerOf_19 rfl ?_
      refine go_getr (ci := 1) hC 0 kwX2_containerOf_1 rfl rfl (by decide) rfl lkX2_containerOf_240 (by first | decide | (show _ < 5; omega) | (show _ < 10; omega) | omega) dX2_containerOf_20 ?_
      refine go_iload_n hC dX2_containerOf_23 rfl ?_
      refine go_aald hC rfl (fun _ => rfl) (by first | decide | (show _ < 5; omega) | (show _ < 10; omega) | omega) (gm_in hce (by omega) (by decide)) (gm_cl5 hce (by omega)) dX2_containerOf_24 ?_
      refine go_cast ?_ ?_ (hE _ _ _ _ (by decide) (by decide) (thF_f hnb) dX2_containerOf_25)
      · first | rfl | (simp [*]; done)
      · first | rfl | (simp [*]; done)
    ·
      exact hT _ _ _ _ _ _ "java/lang/IllegalArgumentException" "container" _ (thF_t (by first | exact Or.inl h1 | exact Or.inr h6)) (by decide) (by decide) (by decide) (by decide) ltX2_containerOf_Ik ltX2_containerOf_Ii ltX2_containerOf_Ig rfl (by decide) (by decide) (by decide) (by decide) dX2_containerOf_9 dX2_containerOf_12 dX2_containerOf_13 dX2_containerOf_15 dX2_containerOf_18
set_option maxHeartbeats 4000000 in
set_option maxRecDepth 100000 in
/-- X2_pluggedContainer -/
theorem c_X2_pluggedContainer (M : gm_M) (u c : Int32) : KX lyC yX2_pluggedContainer wsX2_pluggedContainer ({ frames := 8, cells := 3, slots := 18, locals := 133 }) (fun ad => [.ref (ad 2 0), .int u, .int c]) M (thF (aW M u ∨ bC c) "java/lang/IllegalArgumentException" none) (fun ad => some (.ref (ad 0 (2 * uN u + uN c)))) (M) 3 18 := by
  refine KX.of_a (by decide) rfl rfl (fun _ => by simp) (fun _ => by simp [Value.category]) (rv := fun ad => .ref (ad 0 (2 * uN u + uN c))) (fun ad => Or.inr ⟨_, rfl⟩) ?_
  intro X hC hR hSX hE hT
  have hX := hSX.nx
  simp only [List.map_cons, List.map_nil, List.cons_append, List.nil_append, List.length_cons, List.length_nil, List.replicate, Nat.reduceAdd, Nat.reduceSub]
  refine go_aload_n hC dX2_pluggedContainer_0 rfl ?_
  refine go_iload_n hC dX2_pluggedContainer_1 rfl ?_
  refine go_callVX (n := 1) (k0 := 2) (n0 := 0) hC hSX (c_X2_plugged M u) gX2_pluggedContainer_X2_plugged rfl (by decide +kernel) ⟨rfl, rfl⟩ (by rw [hR]; exact ⟨by decide, by decide⟩) (by rw [hR]; exact ⟨by decide, by decide⟩) rfl (by decide) (by decide) rfl rfl (by first | decide | (show _ < 5; omega) | (show _ < 10; omega) | omega) rfl rfl rfl (Nat.le_of_ble_eq_true rfl) dX2_pluggedContainer_2 (fun E h => by obtain ⟨hp, rfl⟩ := thF_some h; exact thF_t (Or.inl hp)) (fun hn2 => ?_)
  simp only [gm_r0, gm_r1]
  obtain ⟨hue, hu5⟩ := bU_ix (fun q => thF_none hn2 (Or.inl q))
  refine go_iload_n hC dX2_pluggedContainer_5 rfl ?_
  refine go_callSX (n := 2) hC hSX (c_X2_containerOf M (uN u) hu5 c) gX2_pluggedContainer_X2_containerOf rfl (by decide +kernel) ⟨rfl, rfl⟩ (by rw [hR]; exact ⟨by decide, by decide⟩) (by rw [hR]; exact ⟨by decide, by decide⟩) rfl (by decide) (by decide) rfl rfl rfl (Nat.le_of_ble_eq_true rfl) dX2_pluggedContainer_6 (fun E h => by obtain ⟨hp, rfl⟩ := thF_some h; exact thF_t (Or.inr hp)) (fun hn6 => ?_)
  simp only [gm_r0, gm_r1]
  refine go_cast ?_ ?_ (hE _ _ _ _ (by decide) (by decide) (thF_f (fun q => q.elim (thF_none hn2) (thF_none hn6))) dX2_pluggedContainer_9)
  · first | rfl | (simp [*]; done)
  · first | rfl | (simp [*]; done)
set_option maxHeartbeats 4000000 in
set_option maxRecDepth 100000 in
/-- X2_unplug -/
theorem c_X2_unplug (M : gm_M) (u : Int32) : KX lyC yX2_unplug wsX2_unplug ({ frames := 8, cells := 2, slots := 12, locals := 133 }) (fun ad => [.ref (ad 2 0), .int u]) M (thF (aW M u) "java/lang/IllegalArgumentException" none) (fun _ => none) (uClear M (uN u)) 2 12 := by
  refine KX.of_v (by decide) rfl rfl (fun _ => by simp) (fun _ => by simp [Value.category])  ?_
  intro X hC hR hSX hE hT
  have hX := hSX.nx
  simp only [List.map_cons, List.map_nil, List.cons_append, List.nil_append, List.length_cons, List.length_nil, List.replicate, Nat.reduceAdd, Nat.reduceSub]
  refine go_aload_n hC dX2_unplug_0 rfl ?_
  refine go_iload_n hC dX2_unplug_1 rfl ?_
  refine go_callVX (n := 1) (k0 := 2) (n0 := 0) hC hSX (c_X2_plugged M u) gX2_unplug_X2_plugged rfl (by decide +kernel) ⟨rfl, rfl⟩ (by rw [hR]; exact ⟨by decide, by decide⟩) (by rw [hR]; exact ⟨by decide, by decide⟩) rfl (by decide) (by decide) rfl rfl (by first | decide | (show _ < 5; omega) | (show _ < 10; omega) | omega) rfl rfl rfl (Nat.le_of_ble_eq_true rfl) dX2_unplug_2 (fun E h => by obtain ⟨hp, rfl⟩ := thF_some h; exact thF_t (hp)) (fun hn2 => ?_)
  simp only [gm_r0, gm_r1]
  obtain ⟨hue, hu5⟩ := bU_ix (fun q => thF_none hn2 (Or.inl q))
  refine go_callV (n := 0) (k0 := 1) (n0 := uN u) hC hX (c_X1_clear _ _ hu5) gX2_unplug_X1_clear rfl (by decide +kernel) ⟨rfl, rfl⟩ (by rw [hR]; exact ⟨by decide, by decide⟩) (by rw [hR]; exact ⟨by decide, by decide⟩) rfl rfl rfl (by first | decide | (show _ < 5; omega) | (show _ < 10; omega) | omega) rfl rfl rfl (Nat.le_of_ble_eq_true rfl) dX2_unplug_5 ?_
  simp only [gm_r0, gm_r1]
  refine go_cast ?_ ?_ (hE _ _ _ _ (by decide) (by decide) (thF_f (thF_none hn2)) dX2_unplug_8)
  · first | rfl | (simp [*]; done)
  · first | rfl | (simp [*]; done)
theorem kwX2_down_1 : ∀ w ∈ wsX10, w ∈ wsX2_down := by decide +kernel
theorem lkX2_down_129 : Cond.fieldLink RX2 129 "SharedFibre$Unit" "wordWaits" "Z" ∈ wsX2_down := by decide +kernel
theorem lkX2_down_132 : Cond.fieldLink RX2 132 "SharedFibre$Unit" "waitingWord" "I" ∈ wsX2_down := by decide +kernel
set_option maxHeartbeats 4000000 in
set_option maxRecDepth 100000 in
/-- X2_down -/
theorem c_X2_down (M : gm_M) (u a : Int32) : KX lyC yX2_down wsX2_down ({ frames := 8, cells := 2, slots := 12, locals := 133 }) (fun ad => [.ref (ad 2 0), .int u, .int a]) M (thF (aW M u) "java/lang/IllegalArgumentException" none) (fun _ => none) (gm_up (gm_up M 1 10 (uN u) 1) 1 11 (uN u) a) 2 12 := by
  refine KX.of_v (by decide) rfl rfl (fun _ => by simp) (fun _ => by simp [Value.category])  ?_
  intro X hC hR hSX hE hT
  have hX := hSX.nx
  simp only [List.map_cons, List.map_nil, List.cons_append, List.nil_append, List.length_cons, List.length_nil, List.replicate, Nat.reduceAdd, Nat.reduceSub]
  refine go_aload_n hC dX2_down_0 rfl ?_
  refine go_iload_n hC dX2_down_1 rfl ?_
  refine go_callVX (n := 1) (k0 := 2) (n0 := 0) hC hSX (c_X2_plugged M u) gX2_down_X2_plugged rfl (by decide +kernel) ⟨rfl, rfl⟩ (by rw [hR]; exact ⟨by decide, by decide⟩) (by rw [hR]; exact ⟨by decide, by decide⟩) rfl (by decide) (by decide) rfl rfl (by first | decide | (show _ < 5; omega) | (show _ < 10; omega) | omega) rfl rfl rfl (Nat.le_of_ble_eq_true rfl) dX2_down_2 (fun E h => by obtain ⟨hp, rfl⟩ := thF_some h; exact thF_t (hp)) (fun hn2 => ?_)
  simp only [gm_r0, gm_r1]
  obtain ⟨hue, hu5⟩ := bU_ix (fun q => thF_none hn2 (Or.inl q))
  refine go_astore_n hC 3 dX2_down_5 rfl (Nat.le_of_ble_eq_true rfl) ?_
  simp only [gm_s0, gm_s1]
  refine go_aload_n hC dX2_down_6 rfl ?_
  refine go_iconst (v := 1) hC dX2_down_7 (by decide) ?_
  refine go_puti (ci := 1) hC 10 kwX2_down_1 rfl tyX1 tyX1_ok nmX1 rfl (by decide) rfl lkX2_down_129 (by first | decide | (show _ < 5; omega) | (show _ < 10; omega) | omega) rfl (by decide) (by decide) dX2_down_8 ?_
  refine go_aload_n hC dX2_down_11 rfl ?_
  refine go_iload_n hC dX2_down_12 rfl ?_
  refine go_puti (ci := 1) hC 11 kwX2_down_1 rfl tyX1 tyX1_ok nmX1 rfl (by decide) rfl lkX2_down_132 (by first | decide | (show _ < 5; omega) | (show _ < 10; omega) | omega) rfl rfl rfl dX2_down_13 ?_
  refine go_cast ?_ ?_ (hE _ _ _ _ (by decide) (by decide) (thF_f (thF_none hn2)) dX2_down_16)
  · first | rfl | (simp [*]; done)
  · first | rfl | (simp [*]; done)
theorem kwX2_spoil_1 : ∀ w ∈ wsX10, w ∈ wsX2_spoil := by decide +kernel
theorem lkX2_spoil_135 : Cond.fieldLink RX2 135 "SharedFibre$Unit" "spoilt" "Z" ∈ wsX2_spoil := by decide +kernel
set_option maxHeartbeats 4000000 in
set_option maxRecDepth 100000 in
/-- X2_spoil -/
theorem c_X2_spoil (M : gm_M) (u : Int32) : KX lyC yX2_spoil wsX2_spoil ({ frames := 8, cells := 2, slots := 12, locals := 133 }) (fun ad => [.ref (ad 2 0), .int u]) M (thF (aW M u) "java/lang/IllegalArgumentException" none) (fun _ => none) (gm_up M 1 14 (uN u) 1) 2 12 := by
  refine KX.of_v (by decide) rfl rfl (fun _ => by simp) (fun _ => by simp [Value.category])  ?_
  intro X hC hR hSX hE hT
  have hX := hSX.nx
  simp only [List.map_cons, List.map_nil, List.cons_append, List.nil_append, List.length_cons, List.length_nil, List.replicate, Nat.reduceAdd, Nat.reduceSub]
  refine go_aload_n hC dX2_spoil_0 rfl ?_
  refine go_iload_n hC dX2_spoil_1 rfl ?_
  refine go_callVX (n := 1) (k0 := 2) (n0 := 0) hC hSX (c_X2_plugged M u) gX2_spoil_X2_plugged rfl (by decide +kernel) ⟨rfl, rfl⟩ (by rw [hR]; exact ⟨by decide, by decide⟩) (by rw [hR]; exact ⟨by decide, by decide⟩) rfl (by decide) (by decide) rfl rfl (by first | decide | (show _ < 5; omega) | (show _ < 10; omega) | omega) rfl rfl rfl (Nat.le_of_ble_eq_true rfl) dX2_spoil_2 (fun E h => by obtain ⟨hp, rfl⟩ := thF_some h; exact thF_t (hp)) (fun hn2 => ?_)
  simp only [gm_r0, gm_r1]
  obtain ⟨hue, hu5⟩ := bU_ix (fun q => thF_none hn2 (Or.inl q))
  refine go_iconst (v := 1) hC dX2_spoil_5 (by decide) ?_
  refine go_puti (ci := 1) hC 14 kwX2_spoil_1 rfl tyX1 tyX1_ok nmX1 rfl (by decide) rfl lkX2_spoil_135 (by first | decide | (show _ < 5; omega) | (show _ < 10; omega) | omega) rfl (by decide) (by decide) dX2_spoil_6 ?_
  refine go_cast ?_ ?_ (hE _ _ _ _ (by decide) (by decide) (thF_f (thF_none hn2)) dX2_spoil_9)
  · first | rfl | (simp [*]; done)
  · first | rfl | (simp [*]; done)
theorem kwX2_key_1 : ∀ w ∈ wsX10, w ∈ wsX2_key := by decide +kernel
theorem lkX2_key_120 : Cond.fieldLink RX2 120 "SharedFibre$Unit" "keyWaits" "Z" ∈ wsX2_key := by decide +kernel
theorem lkX2_key_126 : Cond.fieldLink RX2 126 "SharedFibre$Unit" "waitingKey" "I" ∈ wsX2_key := by decide +kernel
theorem ltX2_key_Ii : Cond.initialized "java/lang/IllegalArgumentException" ∈ wsX2_key := by decide +kernel
theorem ltX2_key_Ik : Cond.classLink RX2 37 "java/lang/IllegalArgumentException" ∈ wsX2_key := by decide +kernel
theorem ltX2_key_Si : Cond.initialized "java/lang/IllegalStateException" ∈ wsX2_key := by decide +kernel
theorem ltX2_key_Sk : Cond.classLink RX2 53 "java/lang/IllegalStateException" ∈ wsX2_key := by decide +kernel
theorem ltX2_key_Ig : ∀ w ∈ (xW 41 "java/lang/IllegalArgumentException").filter goodWord, w ∈ wsX2_key := by
  intro w h
  first | exact List.mem_cons_of_mem _ (List.mem_append_right _ h) | exact List.mem_cons_of_mem _ (List.mem_append_left _ (List.mem_append_right _ h)) | exact List.mem_cons_of_mem _ (List.mem_append_left _ (List.mem_append_left _ (List.mem_append_right _ h)))
theorem ltX2_key_Sg : ∀ w ∈ (xW 57 "java/lang/IllegalStateException").filter goodWord, w ∈ wsX2_key := by
  intro w h
  first | exact List.mem_cons_of_mem _ (List.mem_append_right _ h) | exact List.mem_cons_of_mem _ (List.mem_append_left _ (List.mem_append_right _ h)) | exact List.mem_cons_of_mem _ (List.mem_append_left _ (List.mem_append_left _ (List.mem_append_right _ h)))
set_option maxHeartbeats 4000000 in
set_option maxRecDepth 100000 in
/-- X2_key -/
theorem c_X2_key (M : gm_M) (u a : Int32) : KX lyC yX2_key wsX2_key ({ frames := 8, cells := 3, slots := 18, locals := 133 }) (fun ad => [.ref (ad 2 0), .int u, .int a]) M (thF (aW M u ∨ a < 0 ∨ ¬ a ≤ 99) "java/lang/IllegalArgumentException" (thF (¬ M 1 7 (uN u) = 0) "java/lang/IllegalStateException" none)) (fun _ => none) (gm_up (gm_up M 1 7 (uN u) 1) 1 8 (uN u) a) 3 18 := by
  refine KX.of_v (by decide) rfl rfl (fun _ => by simp) (fun _ => by simp [Value.category])  ?_
  intro X hC hR hSX hE hT
  have hX := hSX.nx
  simp only [List.map_cons, List.map_nil, List.cons_append, List.nil_append, List.length_cons, List.length_nil, List.replicate, Nat.reduceAdd, Nat.reduceSub]
  refine go_aload_n hC dX2_key_0 rfl ?_
  refine go_iload_n hC dX2_key_1 rfl ?_
  refine go_callVX (n := 1) (k0 := 2) (n0 := 0) hC hSX (c_X2_plugged M u) gX2_key_X2_plugged rfl (by decide +kernel) ⟨rfl, rfl⟩ (by rw [hR]; exact ⟨by decide, by decide⟩) (by rw [hR]; exact ⟨by decide, by decide⟩) rfl (by decide) (by decide) rfl rfl (by first | decide | (show _ < 5; omega) | (show _ < 10; omega) | omega) rfl rfl rfl (Nat.le_of_ble_eq_true rfl) dX2_key_2 (fun E h => by obtain ⟨hp, rfl⟩ := thF_some h; exact thF_t (Or.inl hp)) (fun hn2 => ?_)
  simp only [gm_r0, gm_r1]
  obtain ⟨hue, hu5⟩ := bU_ix (fun q => thF_none hn2 (Or.inl q))
  refine go_astore_n hC 3 dX2_key_5 rfl (Nat.le_of_ble_eq_true rfl) ?_
  simp only [gm_s0, gm_s1]
  refine go_iload_n hC dX2_key_6 rfl ?_
  refine go_if_lt hC 16 dX2_key_7 (by decide) (fun h7 => ?_) (fun h7 => ?_)
  ·
    exact hT _ _ _ _ _ _ "java/lang/IllegalArgumentException" "key" _ (thF_t (by first | exact Or.inr (Or.inl h7) | exact Or.inr (Or.inr h13))) (by decide) (by decide) (by decide) (by decide) ltX2_key_Ik ltX2_key_Ii ltX2_key_Ig rfl (by decide) (by decide) (by decide) (by decide) dX2_key_16 dX2_key_19 dX2_key_20 dX2_key_22 dX2_key_25
  ·
    refine go_iload_n hC dX2_key_10 rfl ?_
    refine go_bipush (v := 99) hC dX2_key_11 (by decide) ?_
    refine go_icmp_le hC 26 dX2_key_13 (by decide) (fun h13 => ?_) (fun h13 => ?_)
    ·
      have hnb : ¬ (aW M u ∨ a < 0 ∨ ¬ a ≤ 99) := fun q => q.elim (thF_none hn2) (fun q => q.elim h7 (fun q => q h13))
      refine go_aload_n hC dX2_key_26 rfl ?_
      refine go_geti (ci := 1) hC 7 kwX2_key_1 rfl rfl (by decide) rfl lkX2_key_120 (by first | decide | (show _ < 5; omega) | (show _ < 10; omega) | omega) dX2_key_27 ?_
      refine go_if_eq hC 43 dX2_key_30 (by decide) (fun h30 => ?_) (fun h30 => ?_)
      ·
        refine go_aload_n hC dX2_key_43 rfl ?_
        refine go_iconst (v := 1) hC dX2_key_44 (by decide) ?_
        refine go_puti (ci := 1) hC 7 kwX2_key_1 rfl tyX1 tyX1_ok nmX1 rfl (by decide) rfl lkX2_key_120 (by first | decide | (show _ < 5; omega) | (show _ < 10; omega) | omega) rfl (by decide) (by decide) dX2_key_45 ?_
        refine go_aload_n hC dX2_key_48 rfl ?_
        refine go_iload_n hC dX2_key_49 rfl ?_
        refine go_puti (ci := 1) hC 8 kwX2_key_1 rfl tyX1 tyX1_ok nmX1 rfl (by decide) rfl lkX2_key_126 (by first | decide | (show _ < 5; omega) | (show _ < 10; omega) | omega) rfl rfl rfl dX2_key_50 ?_
        refine go_cast ?_ ?_ (hE _ _ _ _ (by decide) (by decide) ((thF_f hnb).trans (thF_f (fun q => q h30))) dX2_key_53)
        · first | rfl | (simp [*]; done)
        · first | rfl | (simp [*]; done)
      ·
        exact hT _ _ _ _ _ _ "java/lang/IllegalStateException" "a key waits" _ ((thF_f hnb).trans (thF_t h30)) (by decide) (by decide) (by decide) (by decide) ltX2_key_Sk ltX2_key_Si ltX2_key_Sg rfl (by decide) (by decide) (by decide) (by decide) dX2_key_33 dX2_key_36 dX2_key_37 dX2_key_39 dX2_key_42
    ·
      exact hT _ _ _ _ _ _ "java/lang/IllegalArgumentException" "key" _ (thF_t (by first | exact Or.inr (Or.inl h7) | exact Or.inr (Or.inr h13))) (by decide) (by decide) (by decide) (by decide) ltX2_key_Ik ltX2_key_Ii ltX2_key_Ig rfl (by decide) (by decide) (by decide) (by decide) dX2_key_16 dX2_key_19 dX2_key_20 dX2_key_22 dX2_key_25
def drF (M : gm_M) (n : Nat) (a : Int32) : gm_M := if M 1 1 n = 2 then gm_up (gm_up M 1 3 n (M 1 3 n + a)) 1 5 n (M 1 5 n + a) else gm_up M 1 3 n (M 1 3 n + a)
theorem kwX2_drift_1 : ∀ w ∈ wsX10, w ∈ wsX2_drift := by decide +kernel
theorem lkX2_drift_58 : Cond.fieldLink RX2 58 "SharedFibre$Unit" "state" "I" ∈ wsX2_drift := by decide +kernel
theorem lkX2_drift_64 : Cond.fieldLink RX2 64 "SharedFibre$Unit" "way" "I" ∈ wsX2_drift := by decide +kernel
theorem lkX2_drift_101 : Cond.fieldLink RX2 101 "SharedFibre$Unit" "error" "I" ∈ wsX2_drift := by decide +kernel
theorem ltX2_drift_Ii : Cond.initialized "java/lang/IllegalArgumentException" ∈ wsX2_drift := by decide +kernel
theorem ltX2_drift_Ik : Cond.classLink RX2 37 "java/lang/IllegalArgumentException" ∈ wsX2_drift := by decide +kernel
theorem ltX2_drift_Ig : ∀ w ∈ (xW 41 "java/lang/IllegalArgumentException").filter goodWord, w ∈ wsX2_drift := by
  intro w h
  first | exact List.mem_cons_of_mem _ (List.mem_append_right _ h) | exact List.mem_cons_of_mem _ (List.mem_append_left _ (List.mem_append_right _ h)) | exact List.mem_cons_of_mem _ (List.mem_append_left _ (List.mem_append_left _ (List.mem_append_right _ h)))
set_option maxHeartbeats 4000000 in
set_option maxRecDepth 100000 in
/-- X2_drift -/
theorem c_X2_drift (M : gm_M) (u a : Int32) : KX lyC yX2_drift wsX2_drift ({ frames := 8, cells := 3, slots := 18, locals := 133 }) (fun ad => [.ref (ad 2 0), .int u, .int a]) M (thF (aW M u ∨ a < -2 ∨ 2 < a ∨ ¬ (¬ (M 1 3 (uN u) + a) < 100 ∧ ¬ 600 < (M 1 3 (uN u) + a))) "java/lang/IllegalArgumentException" none) (fun _ => none) (drF M (uN u) a) 3 18 := by
  refine KX.of_v (by decide) rfl rfl (fun _ => by simp) (fun _ => by simp [Value.category])  ?_
  intro X hC hR hSX hE hT
  have hX := hSX.nx
  simp only [List.map_cons, List.map_nil, List.cons_append, List.nil_append, List.length_cons, List.length_nil, List.replicate, Nat.reduceAdd, Nat.reduceSub]
  refine go_aload_n hC dX2_drift_0 rfl ?_
  refine go_iload_n hC dX2_drift_1 rfl ?_
  refine go_callVX (n := 1) (k0 := 2) (n0 := 0) hC hSX (c_X2_plugged M u) gX2_drift_X2_plugged rfl (by decide +kernel) ⟨rfl, rfl⟩ (by rw [hR]; exact ⟨by decide, by decide⟩) (by rw [hR]; exact ⟨by decide, by decide⟩) rfl (by decide) (by decide) rfl rfl (by first | decide | (show _ < 5; omega) | (show _ < 10; omega) | omega) rfl rfl rfl (Nat.le_of_ble_eq_true rfl) dX2_drift_2 (fun E h => by obtain ⟨hp, rfl⟩ := thF_some h; exact thF_t (Or.inl hp)) (fun hn2 => ?_)
  simp only [gm_r0, gm_r1]
  obtain ⟨hue, hu5⟩ := bU_ix (fun q => thF_none hn2 (Or.inl q))
  refine go_astore_n hC 3 dX2_drift_5 rfl (Nat.le_of_ble_eq_true rfl) ?_
  simp only [gm_s0, gm_s1]
  refine go_iload_n hC dX2_drift_6 rfl ?_
  refine go_bipush (v := (-2)) hC dX2_drift_7 (by decide) ?_
  refine go_icmp_lt hC 29 dX2_drift_9 (by decide) (fun h9 => ?_) (fun h9 => ?_)
  ·
    exact hT _ _ _ _ _ _ "java/lang/IllegalArgumentException" "slots" _ (thF_t (by first | exact Or.inr (Or.inl h9) | exact Or.inr (Or.inr (Or.inl h14)) | exact Or.inr (Or.inr (Or.inr (fun q => absurd (h26.symm.trans (if_pos q)) (by decide)))))) (by decide) (by decide) (by decide) (by decide) ltX2_drift_Ik ltX2_drift_Ii ltX2_drift_Ig rfl (by decide) (by decide) (by decide) (by decide) dX2_drift_29 dX2_drift_32 dX2_drift_33 dX2_drift_35 dX2_drift_38
  ·
    refine go_iload_n hC dX2_drift_12 rfl ?_
    refine go_iconst (v := 2) hC dX2_drift_13 (by decide) ?_
    refine go_icmp_gt hC 29 dX2_drift_14 (by decide) (fun h14 => ?_) (fun h14 => ?_)
    ·
      exact hT _ _ _ _ _ _ "java/lang/IllegalArgumentException" "slots" _ (thF_t (by first | exact Or.inr (Or.inl h9) | exact Or.inr (Or.inr (Or.inl h14)) | exact Or.inr (Or.inr (Or.inr (fun q => absurd (h26.symm.trans (if_pos q)) (by decide)))))) (by decide) (by decide) (by decide) (by decide) ltX2_drift_Ik ltX2_drift_Ii ltX2_drift_Ig rfl (by decide) (by decide) (by decide) (by decide) dX2_drift_29 dX2_drift_32 dX2_drift_33 dX2_drift_35 dX2_drift_38
    ·
      refine go_aload_n hC dX2_drift_17 rfl ?_
      refine go_geti (ci := 1) hC 3 kwX2_drift_1 rfl rfl (by decide) rfl lkX2_drift_64 (by first | decide | (show _ < 5; omega) | (show _ < 10; omega) | omega) dX2_drift_18 ?_
      refine go_iload_n hC dX2_drift_21 rfl ?_
      refine go_iadd hC dX2_drift_22 ?_
      refine go_callS (n := 1) hC hX (c_X2_isWay _ _) gX2_drift_X2_isWay rfl (by decide +kernel) ⟨rfl, rfl⟩ (by rw [hR]; exact ⟨by decide, by decide⟩) (by rw [hR]; exact ⟨by decide, by decide⟩) rfl rfl rfl rfl (Nat.le_of_ble_eq_true rfl) dX2_drift_23 ?_
      simp only [gm_r0, gm_r1]
      refine go_if_ne hC 39 dX2_drift_26 (by decide) (fun h26 => ?_) (fun h26 => ?_)
      ·
        have hw : (¬ (M 1 3 (uN u) + a) < 100 ∧ ¬ 600 < (M 1 3 (uN u) + a)) := Classical.byContradiction (fun q => h26 (if_neg q))
        have hnb : ¬ (aW M u ∨ a < -2 ∨ 2 < a ∨ ¬ (¬ (M 1 3 (uN u) + a) < 100 ∧ ¬ 600 < (M 1 3 (uN u) + a))) := fun q => q.elim (thF_none hn2) (fun q => q.elim h9 (fun q => q.elim h14 (fun q => q hw)))
        refine go_aload_n hC dX2_drift_39 rfl ?_
        refine go_dup hC dX2_drift_40 rfl ?_
        refine go_geti (ci := 1) hC 3 kwX2_drift_1 rfl rfl (by decide) rfl lkX2_drift_64 (by first | decide | (show _ < 5; omega) | (show _ < 10; omega) | omega) dX2_drift_41 ?_
        refine go_iload_n hC dX2_drift_44 rfl ?_
        refine go_iadd hC dX2_drift_45 ?_
        refine go_puti (ci := 1) hC 3 kwX2_drift_1 rfl tyX1 tyX1_ok nmX1 rfl (by decide) rfl lkX2_drift_64 (by first | decide | (show _ < 5; omega) | (show _ < 10; omega) | omega) rfl rfl rfl dX2_drift_46 ?_
        refine go_aload_n hC dX2_drift_49 rfl ?_
        refine go_geti (ci := 1) hC 1 kwX2_drift_1 rfl rfl (by decide) rfl lkX2_drift_58 (by first | decide | (show _ < 5; omega) | (show _ < 10; omega) | omega) dX2_drift_50 ?_
        refine go_iconst (v := 2) hC dX2_drift_53 (by decide) ?_
        refine go_icmp_ne hC 67 dX2_drift_54 (by decide) (fun h54 => ?_) (fun h54 => ?_)
        ·
          rw [gm_un2 (by decide)] at h54
          refine go_cast rfl ?_ (hE _ _ _ _ (by decide) (by decide) (thF_f hnb) dX2_drift_67)
          first | (rw [show drF M (uN u) a = _ from if_pos h54, gm_un2 (by decide)]; done) | (rw [show drF M (uN u) a = _ from if_neg h54]; done)
        ·
          rw [gm_un2 (by decide)] at h54
          refine go_aload_n hC dX2_drift_57 rfl ?_
          refine go_dup hC dX2_drift_58 rfl ?_
          refine go_geti (ci := 1) hC 5 kwX2_drift_1 rfl rfl (by decide) rfl lkX2_drift_101 (by first | decide | (show _ < 5; omega) | (show _ < 10; omega) | omega) dX2_drift_59 ?_
          refine go_iload_n hC dX2_drift_62 rfl ?_
          refine go_iadd hC dX2_drift_63 ?_
          refine go_puti (ci := 1) hC 5 kwX2_drift_1 rfl tyX1 tyX1_ok nmX1 rfl (by decide) rfl lkX2_drift_101 (by first | decide | (show _ < 5; omega) | (show _ < 10; omega) | omega) rfl rfl rfl dX2_drift_64 ?_
          refine go_cast rfl ?_ (hE _ _ _ _ (by decide) (by decide) (thF_f hnb) dX2_drift_67)
          first | (rw [show drF M (uN u) a = _ from if_pos h54, gm_un2 (by decide)]; done) | (rw [show drF M (uN u) a = _ from if_neg h54]; done)
      ·
        exact hT _ _ _ _ _ _ "java/lang/IllegalArgumentException" "slots" _ (thF_t (by first | exact Or.inr (Or.inl h9) | exact Or.inr (Or.inr (Or.inl h14)) | exact Or.inr (Or.inr (Or.inr (fun q => absurd (h26.symm.trans (if_pos q)) (by decide)))))) (by decide) (by decide) (by decide) (by decide) ltX2_drift_Ik ltX2_drift_Ii ltX2_drift_Ig rfl (by decide) (by decide) (by decide) (by decide) dX2_drift_29 dX2_drift_32 dX2_drift_33 dX2_drift_35 dX2_drift_38
theorem kwX2_feeder_2 : ∀ w ∈ wsX20, w ∈ wsX2_feeder := by decide +kernel
theorem lkX2_feeder_15 : Cond.fieldLink RX2 15 "SharedFibre" "cut" "[Z" ∈ wsX2_feeder := by decide +kernel
theorem ltX2_feeder_Ii : Cond.initialized "java/lang/IllegalArgumentException" ∈ wsX2_feeder := by decide +kernel
theorem ltX2_feeder_Ik : Cond.classLink RX2 37 "java/lang/IllegalArgumentException" ∈ wsX2_feeder := by decide +kernel
theorem ltX2_feeder_Ig : ∀ w ∈ (xW 41 "java/lang/IllegalArgumentException").filter goodWord, w ∈ wsX2_feeder := by
  intro w h
  first | exact List.mem_cons_of_mem _ (List.mem_append_right _ h) | exact List.mem_cons_of_mem _ (List.mem_append_left _ (List.mem_append_right _ h)) | exact List.mem_cons_of_mem _ (List.mem_append_left _ (List.mem_append_left _ (List.mem_append_right _ h)))
set_option maxHeartbeats 4000000 in
set_option maxRecDepth 100000 in
/-- X2_feeder -/
theorem c_X2_feeder (M : gm_M) (f z : Int32) : KX lyC yX2_feeder wsX2_feeder ({ frames := 6, cells := 1, slots := 6, locals := 90 }) (fun ad => [.ref (ad 2 0), .int f, .int z]) M (thF (bC f) "java/lang/IllegalArgumentException" none) (fun _ => none) (gm_up M 4 (uN f) 0 (vp_nar .boolean z)) 1 6 := by
  refine KX.of_v (by decide) rfl rfl (fun _ => by simp) (fun _ => by simp [Value.category])  ?_
  intro X hC hR hSX hE hT
  have hX := hSX.nx
  simp only [List.map_cons, List.map_nil, List.cons_append, List.nil_append, List.length_cons, List.length_nil, List.replicate, Nat.reduceAdd, Nat.reduceSub]
  refine go_iload_n hC dX2_feeder_0 rfl ?_
  refine go_if_lt hC 9 dX2_feeder_1 (by decide) (fun h1 => ?_) (fun h1 => ?_)
  ·
    exact hT _ _ _ _ _ _ "java/lang/IllegalArgumentException" "feeder" _ (thF_t (by first | exact Or.inl h1 | exact Or.inr h6)) (by decide) (by decide) (by decide) (by decide) ltX2_feeder_Ik ltX2_feeder_Ii ltX2_feeder_Ig rfl (by decide) (by decide) (by decide) (by decide) dX2_feeder_9 dX2_feeder_12 dX2_feeder_13 dX2_feeder_15 dX2_feeder_18
  ·
    refine go_iload_n hC dX2_feeder_4 rfl ?_
    refine go_iconst (v := 2) hC dX2_feeder_5 (by decide) ?_
    refine go_icmp_lt hC 19 dX2_feeder_6 (by decide) (fun h6 => ?_) (fun h6 => ?_)
    ·
      have hnb : ¬ bC f := fun q => q.elim h1 (fun q => q h6)
      obtain ⟨hfe, hf2⟩ := bC_ix hnb
      refine go_aload_n hC dX2_feeder_19 rfl ?_
      refine go_getr (ci := 2) hC 1 kwX2_feeder_2 rfl rfl (by decide) rfl lkX2_feeder_15 (by first | decide | (show _ < 5; omega) | (show _ < 10; omega) | omega) dX2_feeder_20 ?_
      refine go_iload_n hC dX2_feeder_23 rfl ?_
      refine go_iload_n hC dX2_feeder_24 rfl ?_
      refine go_zast hC rfl (by first | decide | (show _ < 5; omega) | (show _ < 10; omega) | omega) (gm_in hfe (by omega) (by decide)) (gm_cl hfe (by omega)) dX2_feeder_25 ?_
      refine go_cast ?_ ?_ (hE _ _ _ _ (by decide) (by decide) (thF_f hnb) dX2_feeder_26)
      · first | rfl | (simp [*]; done)
      · first | rfl | (simp [*]; done)
    ·
      exact hT _ _ _ _ _ _ "java/lang/IllegalArgumentException" "feeder" _ (thF_t (by first | exact Or.inl h1 | exact Or.inr h6)) (by decide) (by decide) (by decide) (by decide) ltX2_feeder_Ik ltX2_feeder_Ii ltX2_feeder_Ig rfl (by decide) (by decide) (by decide) (by decide) dX2_feeder_9 dX2_feeder_12 dX2_feeder_13 dX2_feeder_15 dX2_feeder_18
end
section
/-! ===== the class: the calls that may throw (2) ===== -/
theorem faD_le (M : gm_M) : ∀ d j, faD M d j ≤ j + d
  | 0, j => Nat.le_refl _
  | d + 1, j => by
    unfold faD
    split
    · omega
    · have := faD_le M d (j + 1)
      omega
theorem kwX2_plug_1 : ∀ w ∈ wsX10, w ∈ wsX2_plug := by decide +kernel
theorem kwX2_plug_2 : ∀ w ∈ wsX20, w ∈ wsX2_plug := by decide +kernel
theorem lkX2_plug_11 : Cond.fieldLink RX2 11 "SharedFibre" "units" "[LSharedFibre$Unit;" ∈ wsX2_plug := by decide +kernel
theorem lkX2_plug_58 : Cond.fieldLink RX2 58 "SharedFibre$Unit" "state" "I" ∈ wsX2_plug := by decide +kernel
theorem lkX2_plug_62 : Cond.fieldLink RX2 62 "SharedFibre$Unit" "serial" "I" ∈ wsX2_plug := by decide +kernel
theorem lkX2_plug_64 : Cond.fieldLink RX2 64 "SharedFibre$Unit" "way" "I" ∈ wsX2_plug := by decide +kernel
theorem ltX2_plug_Ii : Cond.initialized "java/lang/IllegalArgumentException" ∈ wsX2_plug := by decide +kernel
theorem ltX2_plug_Ik : Cond.classLink RX2 37 "java/lang/IllegalArgumentException" ∈ wsX2_plug := by decide +kernel
theorem ltX2_plug_Si : Cond.initialized "java/lang/IllegalStateException" ∈ wsX2_plug := by decide +kernel
theorem ltX2_plug_Sk : Cond.classLink RX2 53 "java/lang/IllegalStateException" ∈ wsX2_plug := by decide +kernel
theorem ltX2_plug_Ig : ∀ w ∈ (xW 41 "java/lang/IllegalArgumentException").filter goodWord, w ∈ wsX2_plug := by
  intro w h
  first | exact List.mem_cons_of_mem _ (List.mem_append_right _ h) | exact List.mem_cons_of_mem _ (List.mem_append_left _ (List.mem_append_right _ h)) | exact List.mem_cons_of_mem _ (List.mem_append_left _ (List.mem_append_left _ (List.mem_append_right _ h)))
theorem ltX2_plug_Sg : ∀ w ∈ (xW 57 "java/lang/IllegalStateException").filter goodWord, w ∈ wsX2_plug := by
  intro w h
  first | exact List.mem_cons_of_mem _ (List.mem_append_right _ h) | exact List.mem_cons_of_mem _ (List.mem_append_left _ (List.mem_append_right _ h)) | exact List.mem_cons_of_mem _ (List.mem_append_left _ (List.mem_append_left _ (List.mem_append_right _ h)))
set_option maxHeartbeats 4000000 in
set_option maxRecDepth 100000 in
/-- X2_plug -/
theorem c_X2_plug (M : gm_M) (a y : Int32) : KX lyC yX2_plug wsX2_plug ({ frames := 6, cells := 1, slots := 6, locals := 90 }) (fun ad => [.ref (ad 2 0), .int a, .int y]) M (thF (a < 0 ∨ 9999 < a ∨ (∃ k, k < 5 ∧ (¬ M 1 1 k = 0 ∧ M 1 2 k = a)) ∨ ¬ (¬ y < 100 ∧ ¬ 600 < y)) "java/lang/IllegalArgumentException" (thF (faD M 5 0 = 5) "java/lang/IllegalStateException" none)) (fun _ => some (.int (nI (faD M 5 0)))) (gm_up (gm_up (gm_up M 1 1 (faD M 5 0) 1) 1 2 (faD M 5 0) a) 1 3 (faD M 5 0) y) 1 6 := by
  refine KX.of_i (by decide) rfl rfl (fun _ => by simp) (fun _ => by simp [Value.category])  ?_
  intro X hC hR hSX hE hT
  have hX := hSX.nx
  simp only [List.map_cons, List.map_nil, List.cons_append, List.nil_append, List.length_cons, List.length_nil, List.replicate, Nat.reduceAdd, Nat.reduceSub]
  refine go_iload_n hC dX2_plug_0 rfl ?_
  refine go_if_lt hC 19 dX2_plug_1 (by decide) (fun h1 => ?_) (fun h1 => ?_)
  ·
    exact hT _ _ _ _ _ _ "java/lang/IllegalArgumentException" "serial" _ (thF_t (by first | exact Or.inl h1 | exact Or.inr (Or.inl h8) | exact Or.inr (Or.inr (Or.inl hs)))) (by decide) (by decide) (by decide) (by decide) ltX2_plug_Ik ltX2_plug_Ii ltX2_plug_Ig rfl (by decide) (by decide) (by decide) (by decide) dX2_plug_19 dX2_plug_22 dX2_plug_23 dX2_plug_25 dX2_plug_28
  ·
    refine go_iload_n hC dX2_plug_4 rfl ?_
    refine go_sipush (v := 9999) hC dX2_plug_5 (by decide) ?_
    refine go_icmp_gt hC 19 dX2_plug_8 (by decide) (fun h8 => ?_) (fun h8 => ?_)
    ·
      exact hT _ _ _ _ _ _ "java/lang/IllegalArgumentException" "serial" _ (thF_t (by first | exact Or.inl h1 | exact Or.inr (Or.inl h8) | exact Or.inr (Or.inr (Or.inl hs)))) (by decide) (by decide) (by decide) (by decide) ltX2_plug_Ik ltX2_plug_Ii ltX2_plug_Ig rfl (by decide) (by decide) (by decide) (by decide) dX2_plug_19 dX2_plug_22 dX2_plug_23 dX2_plug_25 dX2_plug_28
    ·
      refine go_aload_n hC dX2_plug_11 rfl ?_
      refine go_iload_n hC dX2_plug_12 rfl ?_
      refine go_callV (n := 1) (k0 := 2) (n0 := 0) hC hX (c_X2_hasSerial _ _) gX2_plug_X2_hasSerial rfl (by decide +kernel) ⟨rfl, rfl⟩ (by rw [hR]; exact ⟨by decide, by decide⟩) (by rw [hR]; exact ⟨by decide, by decide⟩) rfl rfl rfl (by first | decide | (show _ < 5; omega) | (show _ < 10; omega) | omega) rfl rfl rfl (Nat.le_of_ble_eq_true rfl) dX2_plug_13 ?_
      simp only [gm_r0, gm_r1]
      refine go_if_eq hC 29 dX2_plug_16 (by decide) (fun h16 => ?_) (fun h16 => ?_)
      ·
        have hs : ¬ (∃ k, k < 5 ∧ (¬ M 1 1 k = 0 ∧ M 1 2 k = a)) := fun q => absurd (h16.symm.trans (tF_t q)) (by decide)
        refine go_iload_n hC dX2_plug_29 rfl ?_
        refine go_callS (n := 1) hC hX (c_X2_isWay _ _) gX2_plug_X2_isWay rfl (by decide +kernel) ⟨rfl, rfl⟩ (by rw [hR]; exact ⟨by decide, by decide⟩) (by rw [hR]; exact ⟨by decide, by decide⟩) rfl rfl rfl rfl (Nat.le_of_ble_eq_true rfl) dX2_plug_30 ?_
        simp only [gm_r0, gm_r1]
        refine go_if_ne hC 46 dX2_plug_33 (by decide) (fun h33 => ?_) (fun h33 => ?_)
        ·
          have hw : (¬ y < 100 ∧ ¬ 600 < y) := Classical.byContradiction (fun q => h33 (if_neg q))
          have hnb : ¬ (a < 0 ∨ 9999 < a ∨ (∃ k, k < 5 ∧ (¬ M 1 1 k = 0 ∧ M 1 2 k = a)) ∨ ¬ (¬ y < 100 ∧ ¬ 600 < y)) := fun q => q.elim h1 (fun q => q.elim h8 (fun q => q.elim hs (fun q => q hw)))
          refine go_aload_n hC dX2_plug_46 rfl ?_
          refine go_callV (n := 0) (k0 := 2) (n0 := 0) hC hX (c_X2_firstAway _) gX2_plug_X2_firstAway rfl (by decide +kernel) ⟨rfl, rfl⟩ (by rw [hR]; exact ⟨by decide, by decide⟩) (by rw [hR]; exact ⟨by decide, by decide⟩) rfl rfl rfl (by first | decide | (show _ < 5; omega) | (show _ < 10; omega) | omega) rfl rfl rfl (Nat.le_of_ble_eq_true rfl) dX2_plug_47 ?_
          simp only [gm_r0, gm_r1]
          refine go_istore_n hC 3 dX2_plug_50 rfl (Nat.le_of_ble_eq_true rfl) ?_
          simp only [gm_s0, gm_s1]
          refine go_iload_n hC dX2_plug_51 rfl ?_
          refine go_iconst (v := 5) hC dX2_plug_52 (by decide) ?_
          refine go_icmp_ne hC 66 dX2_plug_53 (by decide) (fun h53 => ?_) (fun h53 => ?_)
          ·
            have hfa : ¬ faD M 5 0 = 5 := fun q => h53 (by rw [q]; decide)
            have hf5 : faD M 5 0 < 5 := by have := faD_le M 5 0; omega
            refine go_aload_n hC dX2_plug_66 rfl ?_
            refine go_getr (ci := 2) hC 0 kwX2_plug_2 rfl rfl (by decide) rfl lkX2_plug_11 (by first | decide | (show _ < 5; omega) | (show _ < 10; omega) | omega) dX2_plug_67 ?_
            refine go_iload_n hC dX2_plug_70 rfl ?_
            refine go_aald hC rfl (fun _ => rfl) (by first | decide | (show _ < 5; omega) | (show _ < 10; omega) | omega) (gm_in rfl (by omega) (by decide)) (gm_cu rfl (by omega)) dX2_plug_71 ?_
            refine go_astore hC dX2_plug_72 (Nat.le_of_ble_eq_true rfl) ?_
            simp only [gm_s0, gm_s1]
            refine go_aload hC dX2_plug_74 rfl ?_
            refine go_iconst (v := 1) hC dX2_plug_76 (by decide) ?_
            refine go_puti (ci := 1) hC 1 kwX2_plug_1 rfl tyX1 tyX1_ok nmX1 rfl (by decide) rfl lkX2_plug_58 (by first | decide | (show _ < 5; omega) | (show _ < 10; omega) | omega) rfl rfl rfl dX2_plug_77 ?_
            refine go_aload hC dX2_plug_80 rfl ?_
            refine go_iload_n hC dX2_plug_82 rfl ?_
            refine go_puti (ci := 1) hC 2 kwX2_plug_1 rfl tyX1 tyX1_ok nmX1 rfl (by decide) rfl lkX2_plug_62 (by first | decide | (show _ < 5; omega) | (show _ < 10; omega) | omega) rfl rfl rfl dX2_plug_83 ?_
            refine go_aload hC dX2_plug_86 rfl ?_
            refine go_iload_n hC dX2_plug_88 rfl ?_
            refine go_puti (ci := 1) hC 3 kwX2_plug_1 rfl tyX1 tyX1_ok nmX1 rfl (by decide) rfl lkX2_plug_64 (by first | decide | (show _ < 5; omega) | (show _ < 10; omega) | omega) rfl rfl rfl dX2_plug_89 ?_
            refine go_iload_n hC dX2_plug_92 rfl ?_
            refine go_cast ?_ ?_ (hE _ _ _ _ (by decide) (by decide) ((thF_f hnb).trans (thF_f hfa)) dX2_plug_93)
            · first | rfl | (simp [*]; done)
            · first | rfl | (simp [*]; done)
          ·
            have hfa : faD M 5 0 = 5 := (nI_eq (by have := faD_le M 5 0; omega) (by decide)).mp h53
            exact hT _ _ _ _ _ _ "java/lang/IllegalStateException" "no unit is away" _ ((thF_f hnb).trans (thF_t hfa)) (by decide) (by decide) (by decide) (by decide) ltX2_plug_Sk ltX2_plug_Si ltX2_plug_Sg rfl (by decide) (by decide) (by decide) (by decide) dX2_plug_56 dX2_plug_59 dX2_plug_60 dX2_plug_62 dX2_plug_65
        ·
          exact hT _ _ _ _ _ _ "java/lang/IllegalArgumentException" "way" _ (thF_t (Or.inr (Or.inr (Or.inr (fun q => absurd (h33.symm.trans (if_pos q)) (by decide)))))) (by decide) (by decide) (by decide) (by decide) ltX2_plug_Ik ltX2_plug_Ii ltX2_plug_Ig rfl (by decide) (by decide) (by decide) (by decide) dX2_plug_36 dX2_plug_39 dX2_plug_40 dX2_plug_42 dX2_plug_45
      ·
        have hs : (∃ k, k < 5 ∧ (¬ M 1 1 k = 0 ∧ M 1 2 k = a)) := Classical.byContradiction (fun q => h16 (tF_f q))
        exact hT _ _ _ _ _ _ "java/lang/IllegalArgumentException" "serial" _ (thF_t (by first | exact Or.inl h1 | exact Or.inr (Or.inl h8) | exact Or.inr (Or.inr (Or.inl hs)))) (by decide) (by decide) (by decide) (by decide) ltX2_plug_Ik ltX2_plug_Ii ltX2_plug_Ig rfl (by decide) (by decide) (by decide) (by decide) dX2_plug_19 dX2_plug_22 dX2_plug_23 dX2_plug_25 dX2_plug_28
def ctF (M : gm_M) (n : Nat) (f a m g : Int32) : gm_M := gm_up (gm_up (gm_up (gm_up M 0 4 n f) 0 5 n a) 0 6 n m) 0 7 n g
theorem kwX2_contract_0 : ∀ w ∈ wsX00, w ∈ wsX2_contract := by decide +kernel
theorem lkX2_contract_84 : Cond.fieldLink RX2 84 "SharedFibre$Container" "fixed" "I" ∈ wsX2_contract := by decide +kernel
theorem lkX2_contract_89 : Cond.fieldLink RX2 89 "SharedFibre$Container" "assured" "I" ∈ wsX2_contract := by decide +kernel
theorem lkX2_contract_94 : Cond.fieldLink RX2 94 "SharedFibre$Container" "most" "I" ∈ wsX2_contract := by decide +kernel
theorem lkX2_contract_97 : Cond.fieldLink RX2 97 "SharedFibre$Container" "weight" "I" ∈ wsX2_contract := by decide +kernel
theorem ltX2_contract_Ii : Cond.initialized "java/lang/IllegalArgumentException" ∈ wsX2_contract := by decide +kernel
theorem ltX2_contract_Ik : Cond.classLink RX2 37 "java/lang/IllegalArgumentException" ∈ wsX2_contract := by decide +kernel
theorem ltX2_contract_Si : Cond.initialized "java/lang/IllegalStateException" ∈ wsX2_contract := by decide +kernel
theorem ltX2_contract_Sk : Cond.classLink RX2 53 "java/lang/IllegalStateException" ∈ wsX2_contract := by decide +kernel
theorem ltX2_contract_Ig : ∀ w ∈ (xW 41 "java/lang/IllegalArgumentException").filter goodWord, w ∈ wsX2_contract := by
  intro w h
  first | exact List.mem_cons_of_mem _ (List.mem_append_right _ h) | exact List.mem_cons_of_mem _ (List.mem_append_left _ (List.mem_append_right _ h)) | exact List.mem_cons_of_mem _ (List.mem_append_left _ (List.mem_append_left _ (List.mem_append_right _ h)))
theorem ltX2_contract_Sg : ∀ w ∈ (xW 57 "java/lang/IllegalStateException").filter goodWord, w ∈ wsX2_contract := by
  intro w h
  first | exact List.mem_cons_of_mem _ (List.mem_append_right _ h) | exact List.mem_cons_of_mem _ (List.mem_append_left _ (List.mem_append_right _ h)) | exact List.mem_cons_of_mem _ (List.mem_append_left _ (List.mem_append_left _ (List.mem_append_right _ h)))
set_option maxHeartbeats 4000000 in
set_option maxRecDepth 100000 in
/-- X2_contract -/
theorem c_X2_contract (M : gm_M) (u c f a m g : Int32) : KX lyC yX2_contract wsX2_contract ({ frames := 9, cells := 4, slots := 24, locals := 155 }) (fun ad => [.ref (ad 2 0), .int u, .int c, .int f, .int a, .int m, .int g]) M (thF (aW M u ∨ bC c ∨ f < 0 ∨ a < 0 ∨ 60 < m ∨ ¬ lg_cmp (f.toInt64 + a.toInt64) m.toInt64 ≤ 0 ∨ g < 1 ∨ ¬ g ≤ 9) "java/lang/IllegalArgumentException" (thF (¬ ((((bx_sum (fun k => M 0 4 k + M 0 5 k) 10 - M 0 4 (2 * uN u + uN c)) - M 0 5 (2 * uN u + uN c)) + f) + a) ≤ 55) "java/lang/IllegalStateException" none)) (fun _ => none) (ctF M (2 * uN u + uN c) f a m g) 4 24 := by
  refine KX.of_v (by decide) rfl rfl (fun _ => by simp) (fun _ => by simp [Value.category])  ?_
  intro X hC hR hSX hE hT
  have hX := hSX.nx
  simp only [List.map_cons, List.map_nil, List.cons_append, List.nil_append, List.length_cons, List.length_nil, List.replicate, Nat.reduceAdd, Nat.reduceSub]
  refine go_aload_n hC dX2_contract_0 rfl ?_
  refine go_iload_n hC dX2_contract_1 rfl ?_
  refine go_iload_n hC dX2_contract_2 rfl ?_
  refine go_callVX (n := 2) (k0 := 2) (n0 := 0) hC hSX (c_X2_pluggedContainer M u c) gX2_contract_X2_pluggedContainer rfl (by decide +kernel) ⟨rfl, rfl⟩ (by rw [hR]; exact ⟨by decide, by decide⟩) (by rw [hR]; exact ⟨by decide, by decide⟩) rfl (by decide) (by decide) rfl rfl (by first | decide | (show _ < 5; omega) | (show _ < 10; omega) | omega) rfl rfl rfl (Nat.le_of_ble_eq_true rfl) dX2_contract_3 (fun E h => by obtain ⟨hp, rfl⟩ := thF_some h; exact thF_t (hp.elim (fun q => Or.inl q) (fun q => Or.inr (Or.inl q)))) (fun hn3 => ?_)
  simp only [gm_r0, gm_r1]
  obtain ⟨hue, hu5⟩ := bU_ix (fun q => thF_none hn3 (Or.inl (Or.inl q)))
  obtain ⟨hce, hc2⟩ := bC_ix (fun q => thF_none hn3 (Or.inr q))
  refine go_astore hC dX2_contract_6 (Nat.le_of_ble_eq_true rfl) ?_
  simp only [gm_s0, gm_s1]
  refine go_iload_n hC dX2_contract_8 rfl ?_
  refine go_if_lt hC 37 dX2_contract_9 (by decide) (fun h9 => ?_) (fun h9 => ?_)
  ·
    exact hT _ _ _ _ _ _ "java/lang/IllegalArgumentException" "fixed, assured or most" _ (thF_t (by first | exact Or.inr (Or.inr (Or.inl h9)) | exact Or.inr (Or.inr (Or.inr (Or.inl h14))) | exact Or.inr (Or.inr (Or.inr (Or.inr (Or.inl h21)))) | exact Or.inr (Or.inr (Or.inr (Or.inr (Or.inr (Or.inl h34))))))) (by decide) (by decide) (by decide) (by decide) ltX2_contract_Ik ltX2_contract_Ii ltX2_contract_Ig rfl (by decide) (by decide) (by decide) (by decide) dX2_contract_37 dX2_contract_40 dX2_contract_41 dX2_contract_43 dX2_contract_46
  ·
    refine go_iload hC dX2_contract_12 rfl ?_
    refine go_if_lt hC 37 dX2_contract_14 (by decide) (fun h14 => ?_) (fun h14 => ?_)
    ·
      exact hT _ _ _ _ _ _ "java/lang/IllegalArgumentException" "fixed, assured or most" _ (thF_t (by first | exact Or.inr (Or.inr (Or.inl h9)) | exact Or.inr (Or.inr (Or.inr (Or.inl h14))) | exact Or.inr (Or.inr (Or.inr (Or.inr (Or.inl h21)))) | exact Or.inr (Or.inr (Or.inr (Or.inr (Or.inr (Or.inl h34))))))) (by decide) (by decide) (by decide) (by decide) ltX2_contract_Ik ltX2_contract_Ii ltX2_contract_Ig rfl (by decide) (by decide) (by decide) (by decide) dX2_contract_37 dX2_contract_40 dX2_contract_41 dX2_contract_43 dX2_contract_46
    ·
      refine go_iload hC dX2_contract_17 rfl ?_
      refine go_bipush (v := 60) hC dX2_contract_19 (by decide) ?_
      refine go_icmp_gt hC 37 dX2_contract_21 (by decide) (fun h21 => ?_) (fun h21 => ?_)
      ·
        exact hT _ _ _ _ _ _ "java/lang/IllegalArgumentException" "fixed, assured or most" _ (thF_t (by first | exact Or.inr (Or.inr (Or.inl h9)) | exact Or.inr (Or.inr (Or.inr (Or.inl h14))) | exact Or.inr (Or.inr (Or.inr (Or.inr (Or.inl h21)))) | exact Or.inr (Or.inr (Or.inr (Or.inr (Or.inr (Or.inl h34))))))) (by decide) (by decide) (by decide) (by decide) ltX2_contract_Ik ltX2_contract_Ii ltX2_contract_Ig rfl (by decide) (by decide) (by decide) (by decide) dX2_contract_37 dX2_contract_40 dX2_contract_41 dX2_contract_43 dX2_contract_46
      ·
        refine go_iload_n hC dX2_contract_24 rfl ?_
        refine go_i2l hC dX2_contract_25 ?_
        refine go_iload hC dX2_contract_26 rfl ?_
        refine go_i2l hC dX2_contract_28 ?_
        refine go_ladd hC dX2_contract_29 ?_
        refine go_iload hC dX2_contract_30 rfl ?_
        refine go_i2l hC dX2_contract_32 ?_
        refine go_lcmp hC dX2_contract_33 ?_
        refine go_if_le hC 47 dX2_contract_34 (by decide) (fun h34 => ?_) (fun h34 => ?_)
        ·
          refine go_iload hC dX2_contract_47 rfl ?_
          refine go_iconst (v := 1) hC dX2_contract_49 (by decide) ?_
          refine go_icmp_lt hC 60 dX2_contract_50 (by decide) (fun h50 => ?_) (fun h50 => ?_)
          ·
            exact hT _ _ _ _ _ _ "java/lang/IllegalArgumentException" "weight" _ (thF_t (by first | exact Or.inr (Or.inr (Or.inr (Or.inr (Or.inr (Or.inr (Or.inl h50)))))) | exact Or.inr (Or.inr (Or.inr (Or.inr (Or.inr (Or.inr (Or.inr h57)))))))) (by decide) (by decide) (by decide) (by decide) ltX2_contract_Ik ltX2_contract_Ii ltX2_contract_Ig rfl (by decide) (by decide) (by decide) (by decide) dX2_contract_60 dX2_contract_63 dX2_contract_64 dX2_contract_66 dX2_contract_69
          ·
            refine go_iload hC dX2_contract_53 rfl ?_
            refine go_bipush (v := 9) hC dX2_contract_55 (by decide) ?_
            refine go_icmp_le hC 70 dX2_contract_57 (by decide) (fun h57 => ?_) (fun h57 => ?_)
            ·
              have hnb : ¬ (aW M u ∨ bC c ∨ f < 0 ∨ a < 0 ∨ 60 < m ∨ ¬ lg_cmp (f.toInt64 + a.toInt64) m.toInt64 ≤ 0 ∨ g < 1 ∨ ¬ g ≤ 9) := fun q => q.elim (fun q => thF_none hn3 (Or.inl q)) (fun q => q.elim (fun q => thF_none hn3 (Or.inr q)) (fun q => q.elim h9 (fun q => q.elim h14 (fun q => q.elim h21 (fun q => q.elim (fun q => q h34) (fun q => q.elim h50 (fun q => q h57)))))))
              refine go_aload_n hC dX2_contract_70 rfl ?_
              refine go_callV (n := 0) (k0 := 2) (n0 := 0) hC hX (c_X2_contracted _) gX2_contract_X2_contracted rfl (by decide +kernel) ⟨rfl, rfl⟩ (by rw [hR]; exact ⟨by decide, by decide⟩) (by rw [hR]; exact ⟨by decide, by decide⟩) rfl rfl rfl (by first | decide | (show _ < 5; omega) | (show _ < 10; omega) | omega) rfl rfl rfl (Nat.le_of_ble_eq_true rfl) dX2_contract_71 ?_
              simp only [gm_r0, gm_r1]
              refine go_aload hC dX2_contract_74 rfl ?_
              refine go_geti (ci := 0) hC 4 kwX2_contract_0 rfl rfl (by decide) rfl lkX2_contract_84 (by first | decide | (show _ < 5; omega) | (show _ < 10; omega) | omega) dX2_contract_76 ?_
              refine go_isub hC dX2_contract_79 ?_
              refine go_aload hC dX2_contract_80 rfl ?_
              refine go_geti (ci := 0) hC 5 kwX2_contract_0 rfl rfl (by decide) rfl lkX2_contract_89 (by first | decide | (show _ < 5; omega) | (show _ < 10; omega) | omega) dX2_contract_82 ?_
              refine go_isub hC dX2_contract_85 ?_
              refine go_iload_n hC dX2_contract_86 rfl ?_
              refine go_iadd hC dX2_contract_87 ?_
              refine go_iload hC dX2_contract_88 rfl ?_
              refine go_iadd hC dX2_contract_90 ?_
              refine go_bipush (v := 55) hC dX2_contract_91 (by decide) ?_
              refine go_icmp_le hC 106 dX2_contract_93 (by decide) (fun h93 => ?_) (fun h93 => ?_)
              ·
                refine go_aload hC dX2_contract_106 rfl ?_
                refine go_iload_n hC dX2_contract_108 rfl ?_
                refine go_puti (ci := 0) hC 4 kwX2_contract_0 rfl tyX0 tyX0_ok nmX0 rfl (by decide) rfl lkX2_contract_84 (by first | decide | (show _ < 5; omega) | (show _ < 10; omega) | omega) rfl rfl rfl dX2_contract_109 ?_
                refine go_aload hC dX2_contract_112 rfl ?_
                refine go_iload hC dX2_contract_114 rfl ?_
                refine go_puti (ci := 0) hC 5 kwX2_contract_0 rfl tyX0 tyX0_ok nmX0 rfl (by decide) rfl lkX2_contract_89 (by first | decide | (show _ < 5; omega) | (show _ < 10; omega) | omega) rfl rfl rfl dX2_contract_116 ?_
                refine go_aload hC dX2_contract_119 rfl ?_
                refine go_iload hC dX2_contract_121 rfl ?_
                refine go_puti (ci := 0) hC 6 kwX2_contract_0 rfl tyX0 tyX0_ok nmX0 rfl (by decide) rfl lkX2_contract_94 (by first | decide | (show _ < 5; omega) | (show _ < 10; omega) | omega) rfl rfl rfl dX2_contract_123 ?_
                refine go_aload hC dX2_contract_126 rfl ?_
                refine go_iload hC dX2_contract_128 rfl ?_
                refine go_puti (ci := 0) hC 7 kwX2_contract_0 rfl tyX0 tyX0_ok nmX0 rfl (by decide) rfl lkX2_contract_97 (by first | decide | (show _ < 5; omega) | (show _ < 10; omega) | omega) rfl rfl rfl dX2_contract_130 ?_
                refine go_cast ?_ ?_ (hE _ _ _ _ (by decide) (by decide) ((thF_f hnb).trans (thF_f (fun q => q h93))) dX2_contract_133)
                · first | rfl | (simp [*]; done)
                · first | rfl | (simp [*]; done)
              ·
                exact hT _ _ _ _ _ _ "java/lang/IllegalStateException" "more than can be contracted" _ ((thF_f hnb).trans (thF_t h93)) (by decide) (by decide) (by decide) (by decide) ltX2_contract_Sk ltX2_contract_Si ltX2_contract_Sg rfl (by decide) (by decide) (by decide) (by decide) dX2_contract_96 dX2_contract_99 dX2_contract_100 dX2_contract_102 dX2_contract_105
            ·
              exact hT _ _ _ _ _ _ "java/lang/IllegalArgumentException" "weight" _ (thF_t (by first | exact Or.inr (Or.inr (Or.inr (Or.inr (Or.inr (Or.inr (Or.inl h50)))))) | exact Or.inr (Or.inr (Or.inr (Or.inr (Or.inr (Or.inr (Or.inr h57)))))))) (by decide) (by decide) (by decide) (by decide) ltX2_contract_Ik ltX2_contract_Ii ltX2_contract_Ig rfl (by decide) (by decide) (by decide) (by decide) dX2_contract_60 dX2_contract_63 dX2_contract_64 dX2_contract_66 dX2_contract_69
        ·
          exact hT _ _ _ _ _ _ "java/lang/IllegalArgumentException" "fixed, assured or most" _ (thF_t (by first | exact Or.inr (Or.inr (Or.inl h9)) | exact Or.inr (Or.inr (Or.inr (Or.inl h14))) | exact Or.inr (Or.inr (Or.inr (Or.inr (Or.inl h21)))) | exact Or.inr (Or.inr (Or.inr (Or.inr (Or.inr (Or.inl h34))))))) (by decide) (by decide) (by decide) (by decide) ltX2_contract_Ik ltX2_contract_Ii ltX2_contract_Ig rfl (by decide) (by decide) (by decide) (by decide) dX2_contract_37 dX2_contract_40 dX2_contract_41 dX2_contract_43 dX2_contract_46
def sdF (M : gm_M) (n q : Nat) (b : Int32) : gm_M := gm_up (cApp M n q (M 2 10 0) b) 2 10 0 (M 2 10 0 + 1)
theorem kwX2_send_0 : ∀ w ∈ wsX00, w ∈ wsX2_send := by decide +kernel
theorem kwX2_send_2 : ∀ w ∈ wsX20, w ∈ wsX2_send := by decide +kernel
theorem lkX2_send_106 : Cond.fieldLink RX2 106 "SharedFibre$Container" "queued" "I" ∈ wsX2_send := by decide +kernel
theorem lkX2_send_109 : Cond.fieldLink RX2 109 "SharedFibre" "datagrams" "I" ∈ wsX2_send := by decide +kernel
theorem ltX2_send_Ii : Cond.initialized "java/lang/IllegalArgumentException" ∈ wsX2_send := by decide +kernel
theorem ltX2_send_Ik : Cond.classLink RX2 37 "java/lang/IllegalArgumentException" ∈ wsX2_send := by decide +kernel
theorem ltX2_send_Si : Cond.initialized "java/lang/IllegalStateException" ∈ wsX2_send := by decide +kernel
theorem ltX2_send_Sk : Cond.classLink RX2 53 "java/lang/IllegalStateException" ∈ wsX2_send := by decide +kernel
theorem ltX2_send_Ig : ∀ w ∈ (xW 41 "java/lang/IllegalArgumentException").filter goodWord, w ∈ wsX2_send := by
  intro w h
  first | exact List.mem_cons_of_mem _ (List.mem_append_right _ h) | exact List.mem_cons_of_mem _ (List.mem_append_left _ (List.mem_append_right _ h)) | exact List.mem_cons_of_mem _ (List.mem_append_left _ (List.mem_append_left _ (List.mem_append_right _ h)))
theorem ltX2_send_Sg : ∀ w ∈ (xW 57 "java/lang/IllegalStateException").filter goodWord, w ∈ wsX2_send := by
  intro w h
  first | exact List.mem_cons_of_mem _ (List.mem_append_right _ h) | exact List.mem_cons_of_mem _ (List.mem_append_left _ (List.mem_append_right _ h)) | exact List.mem_cons_of_mem _ (List.mem_append_left _ (List.mem_append_left _ (List.mem_append_right _ h)))
set_option maxHeartbeats 4000000 in
set_option maxRecDepth 100000 in
/-- X2_send -/
theorem c_X2_send (M : gm_M) (u c b : Int32) (q : Nat → Nat) (hq : ∀ n, n < 10 → M 0 2 n = nI (q n) ∧ q n ≤ 8) : KX lyC yX2_send wsX2_send ({ frames := 9, cells := 4, slots := 24, locals := 155 }) (fun ad => [.ref (ad 2 0), .int u, .int c, .int b]) M (thF (aW M u ∨ bC c ∨ b < 1 ∨ ¬ b ≤ 20) "java/lang/IllegalArgumentException" (thF (M 0 2 (2 * uN u + uN c) = 8 ∨ M 2 10 0 = 100) "java/lang/IllegalStateException" none)) (fun _ => some (.int (M 2 10 0))) (sdF M (2 * uN u + uN c) (q (2 * uN u + uN c)) b) 4 24 := by
  refine KX.of_i (by decide) rfl rfl (fun _ => by simp) (fun _ => by simp [Value.category])  ?_
  intro X hC hR hSX hE hT
  have hX := hSX.nx
  simp only [List.map_cons, List.map_nil, List.cons_append, List.nil_append, List.length_cons, List.length_nil, List.replicate, Nat.reduceAdd, Nat.reduceSub]
  refine go_aload_n hC dX2_send_0 rfl ?_
  refine go_iload_n hC dX2_send_1 rfl ?_
  refine go_iload_n hC dX2_send_2 rfl ?_
  refine go_callVX (n := 2) (k0 := 2) (n0 := 0) hC hSX (c_X2_pluggedContainer M u c) gX2_send_X2_pluggedContainer rfl (by decide +kernel) ⟨rfl, rfl⟩ (by rw [hR]; exact ⟨by decide, by decide⟩) (by rw [hR]; exact ⟨by decide, by decide⟩) rfl (by decide) (by decide) rfl rfl (by first | decide | (show _ < 5; omega) | (show _ < 10; omega) | omega) rfl rfl rfl (Nat.le_of_ble_eq_true rfl) dX2_send_3 (fun E h => by obtain ⟨hp, rfl⟩ := thF_some h; exact thF_t (hp.elim (fun q => Or.inl q) (fun q => Or.inr (Or.inl q)))) (fun hn3 => ?_)
  simp only [gm_r0, gm_r1]
  obtain ⟨hue, hu5⟩ := bU_ix (fun q => thF_none hn3 (Or.inl (Or.inl q)))
  obtain ⟨hce, hc2⟩ := bC_ix (fun q => thF_none hn3 (Or.inr q))
  refine go_astore hC dX2_send_6 (Nat.le_of_ble_eq_true rfl) ?_
  simp only [gm_s0, gm_s1]
  refine go_iload_n hC dX2_send_8 rfl ?_
  refine go_iconst (v := 1) hC dX2_send_9 (by decide) ?_
  refine go_icmp_lt hC 19 dX2_send_10 (by decide) (fun h10 => ?_) (fun h10 => ?_)
  ·
    exact hT _ _ _ _ _ _ "java/lang/IllegalArgumentException" "blocks" _ (thF_t (by first | exact Or.inr (Or.inr (Or.inl h10)) | exact Or.inr (Or.inr (Or.inr h16)))) (by decide) (by decide) (by decide) (by decide) ltX2_send_Ik ltX2_send_Ii ltX2_send_Ig rfl (by decide) (by decide) (by decide) (by decide) dX2_send_19 dX2_send_22 dX2_send_23 dX2_send_25 dX2_send_28
  ·
    refine go_iload_n hC dX2_send_13 rfl ?_
    refine go_bipush (v := 20) hC dX2_send_14 (by decide) ?_
    refine go_icmp_le hC 29 dX2_send_16 (by decide) (fun h16 => ?_) (fun h16 => ?_)
    ·
      have hnb : ¬ (aW M u ∨ bC c ∨ b < 1 ∨ ¬ b ≤ 20) := fun q => q.elim (fun q => thF_none hn3 (Or.inl q)) (fun q => q.elim (fun q => thF_none hn3 (Or.inr q)) (fun q => q.elim h10 (fun q => q h16)))
      refine go_aload hC dX2_send_29 rfl ?_
      refine go_geti (ci := 0) hC 2 kwX2_send_0 rfl rfl (by decide) rfl lkX2_send_106 (by first | decide | (show _ < 5; omega) | (show _ < 10; omega) | omega) dX2_send_31 ?_
      refine go_bipush (v := 8) hC dX2_send_34 (by decide) ?_
      refine go_icmp_eq hC 48 dX2_send_36 (by decide) (fun h36 => ?_) (fun h36 => ?_)
      ·
        exact hT _ _ _ _ _ _ "java/lang/IllegalStateException" "no room for a datagram" _ ((thF_f hnb).trans (thF_t (by first | exact Or.inl h36 | exact Or.inr h45))) (by decide) (by decide) (by decide) (by decide) ltX2_send_Sk ltX2_send_Si ltX2_send_Sg rfl (by decide) (by decide) (by decide) (by decide) dX2_send_48 dX2_send_51 dX2_send_52 dX2_send_54 dX2_send_57
      ·
        refine go_aload_n hC dX2_send_39 rfl ?_
        refine go_geti (ci := 2) hC 10 kwX2_send_2 rfl rfl (by decide) rfl lkX2_send_109 (by first | decide | (show _ < 5; omega) | (show _ < 10; omega) | omega) dX2_send_40 ?_
        refine go_bipush (v := 100) hC dX2_send_43 (by decide) ?_
        refine go_icmp_ne hC 58 dX2_send_45 (by decide) (fun h45 => ?_) (fun h45 => ?_)
        ·
          refine go_aload hC dX2_send_58 rfl ?_
          refine go_aload_n hC dX2_send_60 rfl ?_
          refine go_geti (ci := 2) hC 10 kwX2_send_2 rfl rfl (by decide) rfl lkX2_send_109 (by first | decide | (show _ < 5; omega) | (show _ < 10; omega) | omega) dX2_send_61 ?_
          refine go_iload_n hC dX2_send_64 rfl ?_
          have hq8 : q (2 * uN u + uN c) < 8 := by
            have := (hq (2 * uN u + uN c) (by omega)).2
            have h2 : q (2 * uN u + uN c) ≠ 8 := fun e => h36 (by rw [(hq (2 * uN u + uN c) (by omega)).1, e]; decide)
            omega
          refine go_callV (n := 2) (k0 := 0) (n0 := (2 * uN u + uN c)) hC hX (c_X0_append _ _ (q (2 * uN u + uN c)) (by omega) (hq (2 * uN u + uN c) (by omega)).1 hq8 _ _) gX2_send_X0_append rfl (by decide +kernel) ⟨rfl, rfl⟩ (by rw [hR]; exact ⟨by decide, by decide⟩) (by rw [hR]; exact ⟨by decide, by decide⟩) rfl rfl rfl (by first | decide | (show _ < 5; omega) | (show _ < 10; omega) | omega) rfl rfl rfl (Nat.le_of_ble_eq_true rfl) dX2_send_65 ?_
          simp only [gm_r0, gm_r1]
          refine go_aload_n hC dX2_send_68 rfl ?_
          refine go_dup hC dX2_send_69 rfl ?_
          refine go_geti (ci := 2) hC 10 kwX2_send_2 rfl rfl (by decide) rfl lkX2_send_109 (by first | decide | (show _ < 5; omega) | (show _ < 10; omega) | omega) dX2_send_70 ?_
          refine go_dup_x1 hC dX2_send_73 rfl rfl ?_
          refine go_iconst (v := 1) hC dX2_send_74 (by decide) ?_
          refine go_iadd hC dX2_send_75 ?_
          refine go_puti (ci := 2) hC 10 kwX2_send_2 rfl tyX2 tyX2_ok nmX2 rfl (by decide) rfl lkX2_send_109 (by first | decide | (show _ < 5; omega) | (show _ < 10; omega) | omega) rfl rfl rfl dX2_send_76 ?_
          refine go_cast ?_ ?_ (hE _ _ _ _ (by decide) (by decide) ((thF_f hnb).trans (thF_f (fun q => q.elim h36 h45))) dX2_send_79)
          · simp only [cApp, gm_un1 (show (2 : Nat) ≠ 0 by decide), gm_un1 (show (2 : Nat) ≠ 10 by decide), gm_un1 (show (2 : Nat) ≠ 11 by decide)]
          · simp only [sdF, cApp, gm_un1 (show (2 : Nat) ≠ 0 by decide), gm_un1 (show (2 : Nat) ≠ 10 by decide), gm_un1 (show (2 : Nat) ≠ 11 by decide)]
        ·
          exact hT _ _ _ _ _ _ "java/lang/IllegalStateException" "no room for a datagram" _ ((thF_f hnb).trans (thF_t (by first | exact Or.inl h36 | exact Or.inr h45))) (by decide) (by decide) (by decide) (by decide) ltX2_send_Sk ltX2_send_Si ltX2_send_Sg rfl (by decide) (by decide) (by decide) (by decide) dX2_send_48 dX2_send_51 dX2_send_52 dX2_send_54 dX2_send_57
    ·
      exact hT _ _ _ _ _ _ "java/lang/IllegalArgumentException" "blocks" _ (thF_t (by first | exact Or.inr (Or.inr (Or.inl h10)) | exact Or.inr (Or.inr (Or.inr h16)))) (by decide) (by decide) (by decide) (by decide) ltX2_send_Ik ltX2_send_Ii ltX2_send_Ig rfl (by decide) (by decide) (by decide) (by decide) dX2_send_19 dX2_send_22 dX2_send_23 dX2_send_25 dX2_send_28
theorem kwX2_came_2 : ∀ w ∈ wsX20, w ∈ wsX2_came := by decide +kernel
theorem lkX2_came_19 : Cond.fieldLink RX2 19 "SharedFibre" "arrivals" "[I" ∈ wsX2_came := by decide +kernel
theorem lkX2_came_158 : Cond.fieldLink RX2 158 "SharedFibre" "arrived" "I" ∈ wsX2_came := by decide +kernel
theorem ltX2_came_Bi : Cond.initialized "java/lang/IndexOutOfBoundsException" ∈ wsX2_came := by decide +kernel
theorem ltX2_came_Bk : Cond.classLink RX2 215 "java/lang/IndexOutOfBoundsException" ∈ wsX2_came := by decide +kernel
theorem ltX2_came_Ii : Cond.initialized "java/lang/IllegalArgumentException" ∈ wsX2_came := by decide +kernel
theorem ltX2_came_Ik : Cond.classLink RX2 37 "java/lang/IllegalArgumentException" ∈ wsX2_came := by decide +kernel
theorem ltX2_came_Bg : ∀ w ∈ (xW 219 "java/lang/IndexOutOfBoundsException").filter goodWord, w ∈ wsX2_came := by
  intro w h
  first | exact List.mem_cons_of_mem _ (List.mem_append_right _ h) | exact List.mem_cons_of_mem _ (List.mem_append_left _ (List.mem_append_right _ h)) | exact List.mem_cons_of_mem _ (List.mem_append_left _ (List.mem_append_left _ (List.mem_append_right _ h)))
theorem ltX2_came_Ig : ∀ w ∈ (xW 41 "java/lang/IllegalArgumentException").filter goodWord, w ∈ wsX2_came := by
  intro w h
  first | exact List.mem_cons_of_mem _ (List.mem_append_right _ h) | exact List.mem_cons_of_mem _ (List.mem_append_left _ (List.mem_append_right _ h)) | exact List.mem_cons_of_mem _ (List.mem_append_left _ (List.mem_append_left _ (List.mem_append_right _ h)))
set_option maxHeartbeats 4000000 in
set_option maxRecDepth 100000 in
/-- X2_came -/
theorem c_X2_came (M : gm_M) (k y : Int32) (a : Nat) (ha : M 2 11 0 = nI a) (ha1 : a ≤ 100) : KX lyC yX2_came wsX2_came ({ frames := 6, cells := 1, slots := 6, locals := 90 }) (fun ad => [.ref (ad 2 0), .int k, .int y]) M (thF (k < 0 ∨ ¬ k < M 2 11 0) "java/lang/IndexOutOfBoundsException" (thF (y < 0 ∨ ¬ y < 4) "java/lang/IllegalArgumentException" none)) (fun _ => some (.int (M 5 (4 * uN k + uN y) 0))) (M) 1 6 := by
  refine KX.of_i (by decide) rfl rfl (fun _ => by simp) (fun _ => by simp [Value.category])  ?_
  intro X hC hR hSX hE hT
  have hX := hSX.nx
  simp only [List.map_cons, List.map_nil, List.cons_append, List.nil_append, List.length_cons, List.length_nil, List.replicate, Nat.reduceAdd, Nat.reduceSub]
  refine go_iload_n hC dX2_came_0 rfl ?_
  refine go_if_lt hC 12 dX2_came_1 (by decide) (fun h1 => ?_) (fun h1 => ?_)
  ·
    exact hT _ _ _ _ _ _ "java/lang/IndexOutOfBoundsException" "k" _ (thF_t (by first | exact Or.inl h1 | exact Or.inr h9)) (by decide) (by decide) (by decide) (by decide) ltX2_came_Bk ltX2_came_Bi ltX2_came_Bg rfl (by decide) (by decide) (by decide) (by decide) dX2_came_12 dX2_came_15 dX2_came_16 dX2_came_18 dX2_came_21
  ·
    refine go_iload_n hC dX2_came_4 rfl ?_
    refine go_aload_n hC dX2_came_5 rfl ?_
    refine go_geti (ci := 2) hC 11 kwX2_came_2 rfl rfl (by decide) rfl lkX2_came_158 (by first | decide | (show _ < 5; omega) | (show _ < 10; omega) | omega) dX2_came_6 ?_
    refine go_icmp_lt hC 22 dX2_came_9 (by decide) (fun h9 => ?_) (fun h9 => ?_)
    ·
      have hnk : ¬ (k < 0 ∨ ¬ k < M 2 11 0) := fun q => q.elim h1 (fun q => q h9)
      obtain ⟨hke, hka⟩ := ixN (u := k) a (by omega) h1 (by rw [← ha]; exact h9)
      refine go_iload_n hC dX2_came_22 rfl ?_
      refine go_if_lt hC 31 dX2_came_23 (by decide) (fun h23 => ?_) (fun h23 => ?_)
      ·
        exact hT _ _ _ _ _ _ "java/lang/IllegalArgumentException" "what" _ ((thF_f hnk).trans (thF_t (by first | exact Or.inl h23 | exact Or.inr h28))) (by decide) (by decide) (by decide) (by decide) ltX2_came_Ik ltX2_came_Ii ltX2_came_Ig rfl (by decide) (by decide) (by decide) (by decide) dX2_came_31 dX2_came_34 dX2_came_35 dX2_came_37 dX2_came_40
      ·
        refine go_iload_n hC dX2_came_26 rfl ?_
        refine go_iconst (v := 4) hC dX2_came_27 (by decide) ?_
        refine go_icmp_lt hC 41 dX2_came_28 (by decide) (fun h28 => ?_) (fun h28 => ?_)
        ·
          have hnw : ¬ (y < 0 ∨ ¬ y < 4) := fun q => q.elim h23 (fun q => q h28)
          obtain ⟨hye, hy4⟩ := ixN (u := y) 4 (by decide) h23 h28
          have hix : k * 4 + y = nI (4 * uN k + uN y) := by rw [← nI_add, ← hye, Nat.mul_comm]; congr 1; exact (congrArg (· * 4) hke).trans (pk_mul (uN k) 4)
          refine go_aload_n hC dX2_came_41 rfl ?_
          refine go_getr (ci := 2) hC 2 kwX2_came_2 rfl rfl (by decide) rfl lkX2_came_19 (by first | decide | (show _ < 5; omega) | (show _ < 10; omega) | omega) dX2_came_42 ?_
          refine go_iload_n hC dX2_came_45 rfl ?_
          refine go_iconst (v := 4) hC dX2_came_46 (by decide) ?_
          refine go_imul hC dX2_came_47 ?_
          refine go_iload_n hC dX2_came_48 rfl ?_
          refine go_iadd hC dX2_came_49 ?_
          refine go_iald hC rfl (by first | decide | (show _ < 5; omega) | (show _ < 10; omega) | omega) (gm_in hix (by omega) (by decide)) (gm_cl hix (by omega)) dX2_came_50 ?_
          refine go_cast ?_ ?_ (hE _ _ _ _ (by decide) (by decide) ((thF_f hnk).trans (thF_f hnw)) dX2_came_51)
          · first | rfl | (simp [*]; done)
          · first | rfl | (simp [*]; done)
        ·
          exact hT _ _ _ _ _ _ "java/lang/IllegalArgumentException" "what" _ ((thF_f hnk).trans (thF_t (by first | exact Or.inl h23 | exact Or.inr h28))) (by decide) (by decide) (by decide) (by decide) ltX2_came_Ik ltX2_came_Ii ltX2_came_Ig rfl (by decide) (by decide) (by decide) (by decide) dX2_came_31 dX2_came_34 dX2_came_35 dX2_came_37 dX2_came_40
    ·
      exact hT _ _ _ _ _ _ "java/lang/IndexOutOfBoundsException" "k" _ (thF_t (by first | exact Or.inl h1 | exact Or.inr h9)) (by decide) (by decide) (by decide) (by decide) ltX2_came_Bk ltX2_came_Bi ltX2_came_Bg rfl (by decide) (by decide) (by decide) (by decide) dX2_came_12 dX2_came_15 dX2_came_16 dX2_came_18 dX2_came_21
def coF (M : gm_M) (y : Int32) : Int32 := if y = 0 then M 2 11 0 else if y = 1 then M 2 12 0 else if y = 2 then M 2 9 0 else if y = 3 then M 2 6 0 else if y = 4 then M 2 13 0 else if y = 5 then M 2 14 0 else M 2 15 0
theorem kwX2_count_2 : ∀ w ∈ wsX20, w ∈ wsX2_count := by decide +kernel
theorem lkX2_count_143 : Cond.fieldLink RX2 143 "SharedFibre" "frames" "I" ∈ wsX2_count := by decide +kernel
theorem lkX2_count_146 : Cond.fieldLink RX2 146 "SharedFibre" "active" "I" ∈ wsX2_count := by decide +kernel
theorem lkX2_count_158 : Cond.fieldLink RX2 158 "SharedFibre" "arrived" "I" ∈ wsX2_count := by decide +kernel
theorem lkX2_count_220 : Cond.fieldLink RX2 220 "SharedFibre" "lost" "I" ∈ wsX2_count := by decide +kernel
theorem lkX2_count_223 : Cond.fieldLink RX2 223 "SharedFibre" "met" "I" ∈ wsX2_count := by decide +kernel
theorem lkX2_count_226 : Cond.fieldLink RX2 226 "SharedFibre" "notGiven" "I" ∈ wsX2_count := by decide +kernel
theorem lkX2_count_229 : Cond.fieldLink RX2 229 "SharedFibre" "strayed" "I" ∈ wsX2_count := by decide +kernel
theorem ltX2_count_Ii : Cond.initialized "java/lang/IllegalArgumentException" ∈ wsX2_count := by decide +kernel
theorem ltX2_count_Ik : Cond.classLink RX2 37 "java/lang/IllegalArgumentException" ∈ wsX2_count := by decide +kernel
theorem ltX2_count_Ig : ∀ w ∈ (xW 41 "java/lang/IllegalArgumentException").filter goodWord, w ∈ wsX2_count := by
  intro w h
  first | exact List.mem_cons_of_mem _ (List.mem_append_right _ h) | exact List.mem_cons_of_mem _ (List.mem_append_left _ (List.mem_append_right _ h)) | exact List.mem_cons_of_mem _ (List.mem_append_left _ (List.mem_append_left _ (List.mem_append_right _ h)))
set_option maxHeartbeats 4000000 in
set_option maxRecDepth 100000 in
/-- X2_count -/
theorem c_X2_count (M : gm_M) (y : Int32) : KX lyC yX2_count wsX2_count ({ frames := 6, cells := 1, slots := 6, locals := 90 }) (fun ad => [.ref (ad 2 0), .int y]) M (thF (y.toInt < 0 ∨ (6 : Int) < y.toInt) "java/lang/IllegalArgumentException" none) (fun _ => some (.int (coF M y))) (M) 1 6 := by
  refine KX.of_i (by decide) rfl rfl (fun _ => by simp) (fun _ => by simp [Value.category])  ?_
  intro X hC hR hSX hE hT
  have hX := hSX.nx
  simp only [List.map_cons, List.map_nil, List.cons_append, List.nil_append, List.length_cons, List.length_nil, List.replicate, Nat.reduceAdd, Nat.reduceSub]
  refine go_iload_n hC dX2_count_0 rfl ?_
  by_cases w0 : y = 0
  ·
    subst w0
    refine go_tabIn (off := 43) hC 44 dX2_count_1 (by decide) (by decide) (by decide) (by decide) ?_
    refine go_aload_n hC dX2_count_44 rfl ?_
    refine go_geti (ci := 2) hC 11 kwX2_count_2 rfl rfl (by decide) rfl lkX2_count_158 (by first | decide | (show _ < 5; omega) | (show _ < 10; omega) | omega) dX2_count_45 ?_
    refine go_cast ?_ rfl (hE _ _ _ _ (by decide) (by decide) (thF_f (by decide)) dX2_count_48)
    rfl
  by_cases w1 : y = 1
  ·
    subst w1
    refine go_tabIn (off := 48) hC 49 dX2_count_1 (by decide) (by decide) (by decide) (by decide) ?_
    refine go_aload_n hC dX2_count_49 rfl ?_
    refine go_geti (ci := 2) hC 12 kwX2_count_2 rfl rfl (by decide) rfl lkX2_count_220 (by first | decide | (show _ < 5; omega) | (show _ < 10; omega) | omega) dX2_count_50 ?_
    refine go_cast ?_ rfl (hE _ _ _ _ (by decide) (by decide) (thF_f (by decide)) dX2_count_53)
    rfl
  by_cases w2 : y = 2
  ·
    subst w2
    refine go_tabIn (off := 53) hC 54 dX2_count_1 (by decide) (by decide) (by decide) (by decide) ?_
    refine go_aload_n hC dX2_count_54 rfl ?_
    refine go_geti (ci := 2) hC 9 kwX2_count_2 rfl rfl (by decide) rfl lkX2_count_143 (by first | decide | (show _ < 5; omega) | (show _ < 10; omega) | omega) dX2_count_55 ?_
    refine go_cast ?_ rfl (hE _ _ _ _ (by decide) (by decide) (thF_f (by decide)) dX2_count_58)
    rfl
  by_cases w3 : y = 3
  ·
    subst w3
    refine go_tabIn (off := 58) hC 59 dX2_count_1 (by decide) (by decide) (by decide) (by decide) ?_
    refine go_aload_n hC dX2_count_59 rfl ?_
    refine go_geti (ci := 2) hC 6 kwX2_count_2 rfl rfl (by decide) rfl lkX2_count_146 (by first | decide | (show _ < 5; omega) | (show _ < 10; omega) | omega) dX2_count_60 ?_
    refine go_cast ?_ rfl (hE _ _ _ _ (by decide) (by decide) (thF_f (by decide)) dX2_count_63)
    rfl
  by_cases w4 : y = 4
  ·
    subst w4
    refine go_tabIn (off := 63) hC 64 dX2_count_1 (by decide) (by decide) (by decide) (by decide) ?_
    refine go_aload_n hC dX2_count_64 rfl ?_
    refine go_geti (ci := 2) hC 13 kwX2_count_2 rfl rfl (by decide) rfl lkX2_count_223 (by first | decide | (show _ < 5; omega) | (show _ < 10; omega) | omega) dX2_count_65 ?_
    refine go_cast ?_ rfl (hE _ _ _ _ (by decide) (by decide) (thF_f (by decide)) dX2_count_68)
    rfl
  by_cases w5 : y = 5
  ·
    subst w5
    refine go_tabIn (off := 68) hC 69 dX2_count_1 (by decide) (by decide) (by decide) (by decide) ?_
    refine go_aload_n hC dX2_count_69 rfl ?_
    refine go_geti (ci := 2) hC 14 kwX2_count_2 rfl rfl (by decide) rfl lkX2_count_226 (by first | decide | (show _ < 5; omega) | (show _ < 10; omega) | omega) dX2_count_70 ?_
    refine go_cast ?_ rfl (hE _ _ _ _ (by decide) (by decide) (thF_f (by decide)) dX2_count_73)
    rfl
  by_cases w6 : y = 6
  ·
    subst w6
    refine go_tabIn (off := 73) hC 74 dX2_count_1 (by decide) (by decide) (by decide) (by decide) ?_
    refine go_aload_n hC dX2_count_74 rfl ?_
    refine go_geti (ci := 2) hC 15 kwX2_count_2 rfl rfl (by decide) rfl lkX2_count_229 (by first | decide | (show _ < 5; omega) | (show _ < 10; omega) | omega) dX2_count_75 ?_
    refine go_cast ?_ rfl (hE _ _ _ _ (by decide) (by decide) (thF_f (by decide)) dX2_count_78)
    rfl
  have hsw := swOut y 6 (by decide) (fun k hk => by rcases (show k = 0 ∨ k = 1 ∨ k = 2 ∨ k = 3 ∨ k = 4 ∨ k = 5 ∨ k = 6 by omega) with rfl | rfl | rfl | rfl | rfl | rfl | rfl; exact w0; exact w1; exact w2; exact w3; exact w4; exact w5; exact w6)
  refine go_tabOut hC 79 dX2_count_1 hsw (by decide) ?_
  exact hT _ _ _ _ _ _ "java/lang/IllegalArgumentException" "which" _ (thF_t hsw) (by decide) (by decide) (by decide) (by decide) ltX2_count_Ik ltX2_count_Ii ltX2_count_Ig rfl (by decide) (by decide) (by decide) (by decide) dX2_count_79 dX2_count_82 dX2_count_83 dX2_count_85 dX2_count_88
def unF (M : gm_M) (n : Nat) (y : Int32) : Int32 := if y = 0 then M 1 1 n else if y = 1 then M 1 5 n else if y = 2 then M 1 6 n else if y = 3 then M 1 9 n else if y = 4 then M 1 12 n else if y = 5 then M 1 13 n else M 1 4 n
theorem kwX2_unit_1 : ∀ w ∈ wsX10, w ∈ wsX2_unit := by decide +kernel
theorem lkX2_unit_58 : Cond.fieldLink RX2 58 "SharedFibre$Unit" "state" "I" ∈ wsX2_unit := by decide +kernel
theorem lkX2_unit_101 : Cond.fieldLink RX2 101 "SharedFibre$Unit" "error" "I" ∈ wsX2_unit := by decide +kernel
theorem lkX2_unit_185 : Cond.fieldLink RX2 185 "SharedFibre$Unit" "keyInForce" "I" ∈ wsX2_unit := by decide +kernel
theorem lkX2_unit_188 : Cond.fieldLink RX2 188 "SharedFibre$Unit" "toldKey" "I" ∈ wsX2_unit := by decide +kernel
theorem lkX2_unit_191 : Cond.fieldLink RX2 191 "SharedFibre$Unit" "madeOut" "I" ∈ wsX2_unit := by decide +kernel
theorem lkX2_unit_194 : Cond.fieldLink RX2 194 "SharedFibre$Unit" "sentAs" "I" ∈ wsX2_unit := by decide +kernel
theorem lkX2_unit_197 : Cond.fieldLink RX2 197 "SharedFibre$Unit" "answered" "I" ∈ wsX2_unit := by decide +kernel
theorem ltX2_unit_Ii : Cond.initialized "java/lang/IllegalArgumentException" ∈ wsX2_unit := by decide +kernel
theorem ltX2_unit_Ik : Cond.classLink RX2 37 "java/lang/IllegalArgumentException" ∈ wsX2_unit := by decide +kernel
theorem ltX2_unit_Ig : ∀ w ∈ (xW 41 "java/lang/IllegalArgumentException").filter goodWord, w ∈ wsX2_unit := by
  intro w h
  first | exact List.mem_cons_of_mem _ (List.mem_append_right _ h) | exact List.mem_cons_of_mem _ (List.mem_append_left _ (List.mem_append_right _ h)) | exact List.mem_cons_of_mem _ (List.mem_append_left _ (List.mem_append_left _ (List.mem_append_right _ h)))
set_option maxHeartbeats 4000000 in
set_option maxRecDepth 100000 in
/-- X2_unit -/
theorem c_X2_unit (M : gm_M) (u y : Int32) : KX lyC yX2_unit wsX2_unit ({ frames := 7, cells := 2, slots := 12, locals := 111 }) (fun ad => [.ref (ad 2 0), .int u, .int y]) M (thF (bU u ∨ (y.toInt < 0 ∨ (6 : Int) < y.toInt)) "java/lang/IllegalArgumentException" none) (fun _ => some (.int (unF M (uN u) y))) (M) 2 12 := by
  refine KX.of_i (by decide) rfl rfl (fun _ => by simp) (fun _ => by simp [Value.category])  ?_
  intro X hC hR hSX hE hT
  have hX := hSX.nx
  simp only [List.map_cons, List.map_nil, List.cons_append, List.nil_append, List.length_cons, List.length_nil, List.replicate, Nat.reduceAdd, Nat.reduceSub]
  refine go_aload_n hC dX2_unit_0 rfl ?_
  refine go_iload_n hC dX2_unit_1 rfl ?_
  refine go_callVX (n := 1) (k0 := 2) (n0 := 0) hC hSX (c_X2_numbered M u) gX2_unit_X2_numbered rfl (by decide +kernel) ⟨rfl, rfl⟩ (by rw [hR]; exact ⟨by decide, by decide⟩) (by rw [hR]; exact ⟨by decide, by decide⟩) rfl (by decide) (by decide) rfl rfl (by first | decide | (show _ < 5; omega) | (show _ < 10; omega) | omega) rfl rfl rfl (Nat.le_of_ble_eq_true rfl) dX2_unit_2 (fun E h => by obtain ⟨hp, rfl⟩ := thF_some h; exact thF_t (Or.inl hp)) (fun hn2 => ?_)
  simp only [gm_r0, gm_r1]
  obtain ⟨hue, hu5⟩ := bU_ix (thF_none hn2)
  refine go_astore_n hC 3 dX2_unit_5 rfl (Nat.le_of_ble_eq_true rfl) ?_
  simp only [gm_s0, gm_s1]
  refine go_iload_n hC dX2_unit_6 rfl ?_
  by_cases w0 : y = 0
  ·
    subst w0
    refine go_tabIn (off := 41) hC 48 dX2_unit_7 (by decide) (by decide) (by decide) (by decide) ?_
    refine go_aload_n hC dX2_unit_48 rfl ?_
    refine go_geti (ci := 1) hC 1 kwX2_unit_1 rfl rfl (by decide) rfl lkX2_unit_58 (by first | decide | (show _ < 5; omega) | (show _ < 10; omega) | omega) dX2_unit_49 ?_
    refine go_cast ?_ rfl (hE _ _ _ _ (by decide) (by decide) (thF_f (fun q => q.elim (thF_none hn2) (by decide))) dX2_unit_52)
    rfl
  by_cases w1 : y = 1
  ·
    subst w1
    refine go_tabIn (off := 46) hC 53 dX2_unit_7 (by decide) (by decide) (by decide) (by decide) ?_
    refine go_aload_n hC dX2_unit_53 rfl ?_
    refine go_geti (ci := 1) hC 5 kwX2_unit_1 rfl rfl (by decide) rfl lkX2_unit_101 (by first | decide | (show _ < 5; omega) | (show _ < 10; omega) | omega) dX2_unit_54 ?_
    refine go_cast ?_ rfl (hE _ _ _ _ (by decide) (by decide) (thF_f (fun q => q.elim (thF_none hn2) (by decide))) dX2_unit_57)
    rfl
  by_cases w2 : y = 2
  ·
    subst w2
    refine go_tabIn (off := 51) hC 58 dX2_unit_7 (by decide) (by decide) (by decide) (by decide) ?_
    refine go_aload_n hC dX2_unit_58 rfl ?_
    refine go_geti (ci := 1) hC 6 kwX2_unit_1 rfl rfl (by decide) rfl lkX2_unit_185 (by first | decide | (show _ < 5; omega) | (show _ < 10; omega) | omega) dX2_unit_59 ?_
    refine go_cast ?_ rfl (hE _ _ _ _ (by decide) (by decide) (thF_f (fun q => q.elim (thF_none hn2) (by decide))) dX2_unit_62)
    rfl
  by_cases w3 : y = 3
  ·
    subst w3
    refine go_tabIn (off := 56) hC 63 dX2_unit_7 (by decide) (by decide) (by decide) (by decide) ?_
    refine go_aload_n hC dX2_unit_63 rfl ?_
    refine go_geti (ci := 1) hC 9 kwX2_unit_1 rfl rfl (by decide) rfl lkX2_unit_188 (by first | decide | (show _ < 5; omega) | (show _ < 10; omega) | omega) dX2_unit_64 ?_
    refine go_cast ?_ rfl (hE _ _ _ _ (by decide) (by decide) (thF_f (fun q => q.elim (thF_none hn2) (by decide))) dX2_unit_67)
    rfl
  by_cases w4 : y = 4
  ·
    subst w4
    refine go_tabIn (off := 61) hC 68 dX2_unit_7 (by decide) (by decide) (by decide) (by decide) ?_
    refine go_aload_n hC dX2_unit_68 rfl ?_
    refine go_geti (ci := 1) hC 12 kwX2_unit_1 rfl rfl (by decide) rfl lkX2_unit_191 (by first | decide | (show _ < 5; omega) | (show _ < 10; omega) | omega) dX2_unit_69 ?_
    refine go_cast ?_ rfl (hE _ _ _ _ (by decide) (by decide) (thF_f (fun q => q.elim (thF_none hn2) (by decide))) dX2_unit_72)
    rfl
  by_cases w5 : y = 5
  ·
    subst w5
    refine go_tabIn (off := 66) hC 73 dX2_unit_7 (by decide) (by decide) (by decide) (by decide) ?_
    refine go_aload_n hC dX2_unit_73 rfl ?_
    refine go_geti (ci := 1) hC 13 kwX2_unit_1 rfl rfl (by decide) rfl lkX2_unit_194 (by first | decide | (show _ < 5; omega) | (show _ < 10; omega) | omega) dX2_unit_74 ?_
    refine go_cast ?_ rfl (hE _ _ _ _ (by decide) (by decide) (thF_f (fun q => q.elim (thF_none hn2) (by decide))) dX2_unit_77)
    rfl
  by_cases w6 : y = 6
  ·
    subst w6
    refine go_tabIn (off := 71) hC 78 dX2_unit_7 (by decide) (by decide) (by decide) (by decide) ?_
    refine go_aload_n hC dX2_unit_78 rfl ?_
    refine go_geti (ci := 1) hC 4 kwX2_unit_1 rfl rfl (by decide) rfl lkX2_unit_197 (by first | decide | (show _ < 5; omega) | (show _ < 10; omega) | omega) dX2_unit_79 ?_
    refine go_cast ?_ rfl (hE _ _ _ _ (by decide) (by decide) (thF_f (fun q => q.elim (thF_none hn2) (by decide))) dX2_unit_82)
    rfl
  have hsw := swOut y 6 (by decide) (fun k hk => by rcases (show k = 0 ∨ k = 1 ∨ k = 2 ∨ k = 3 ∨ k = 4 ∨ k = 5 ∨ k = 6 by omega) with rfl | rfl | rfl | rfl | rfl | rfl | rfl; exact w0; exact w1; exact w2; exact w3; exact w4; exact w5; exact w6)
  refine go_tabOut hC 83 dX2_unit_7 hsw (by decide) ?_
  exact hT _ _ _ _ _ _ "java/lang/IllegalArgumentException" "what" _ (thF_t (Or.inr hsw)) (by decide) (by decide) (by decide) (by decide) ltX2_unit_Ik ltX2_unit_Ii ltX2_unit_Ig rfl (by decide) (by decide) (by decide) (by decide) dX2_unit_83 dX2_unit_86 dX2_unit_87 dX2_unit_89 dX2_unit_92
def cnF (M : gm_M) (n q : Nat) (y : Int32) : Int32 := if y = 0 then bx_sum (fun k => M 11 k n) q else if y = 1 then M 0 8 n else if y = 2 then M 0 9 n else M 0 2 n
theorem kwX2_container_0 : ∀ w ∈ wsX00, w ∈ wsX2_container := by decide +kernel
theorem lkX2_container_106 : Cond.fieldLink RX2 106 "SharedFibre$Container" "queued" "I" ∈ wsX2_container := by decide +kernel
theorem lkX2_container_209 : Cond.fieldLink RX2 209 "SharedFibre$Container" "reported" "I" ∈ wsX2_container := by decide +kernel
theorem lkX2_container_212 : Cond.fieldLink RX2 212 "SharedFibre$Container" "given" "I" ∈ wsX2_container := by decide +kernel
theorem ltX2_container_Ii : Cond.initialized "java/lang/IllegalArgumentException" ∈ wsX2_container := by decide +kernel
theorem ltX2_container_Ik : Cond.classLink RX2 37 "java/lang/IllegalArgumentException" ∈ wsX2_container := by decide +kernel
theorem ltX2_container_Ig : ∀ w ∈ (xW 41 "java/lang/IllegalArgumentException").filter goodWord, w ∈ wsX2_container := by
  intro w h
  first | exact List.mem_cons_of_mem _ (List.mem_append_right _ h) | exact List.mem_cons_of_mem _ (List.mem_append_left _ (List.mem_append_right _ h)) | exact List.mem_cons_of_mem _ (List.mem_append_left _ (List.mem_append_left _ (List.mem_append_right _ h)))
set_option maxHeartbeats 4000000 in
set_option maxRecDepth 100000 in
/-- X2_container -/
theorem c_X2_container (M : gm_M) (u c y : Int32) (q : Nat → Nat) (hq : ∀ n, n < 10 → M 0 2 n = nI (q n) ∧ q n ≤ 8) : KX lyC yX2_container wsX2_container ({ frames := 7, cells := 3, slots := 18, locals := 111 }) (fun ad => [.ref (ad 2 0), .int u, .int c, .int y]) M (thF (bU u ∨ bC c ∨ (y.toInt < 0 ∨ (3 : Int) < y.toInt)) "java/lang/IllegalArgumentException" none) (fun _ => some (.int (cnF M (2 * uN u + uN c) (q (2 * uN u + uN c)) y))) (M) 3 18 := by
  refine KX.of_i (by decide) rfl rfl (fun _ => by simp) (fun _ => by simp [Value.category])  ?_
  intro X hC hR hSX hE hT
  have hX := hSX.nx
  simp only [List.map_cons, List.map_nil, List.cons_append, List.nil_append, List.length_cons, List.length_nil, List.replicate, Nat.reduceAdd, Nat.reduceSub]
  refine go_aload_n hC dX2_container_0 rfl ?_
  refine go_iload_n hC dX2_container_1 rfl ?_
  refine go_callVX (n := 1) (k0 := 2) (n0 := 0) hC hSX (c_X2_numbered M u) gX2_container_X2_numbered rfl (by decide +kernel) ⟨rfl, rfl⟩ (by rw [hR]; exact ⟨by decide, by decide⟩) (by rw [hR]; exact ⟨by decide, by decide⟩) rfl (by decide) (by decide) rfl rfl (by first | decide | (show _ < 5; omega) | (show _ < 10; omega) | omega) rfl rfl rfl (Nat.le_of_ble_eq_true rfl) dX2_container_2 (fun E h => by obtain ⟨hp, rfl⟩ := thF_some h; exact thF_t (Or.inl hp)) (fun hn2 => ?_)
  simp only [gm_r0, gm_r1]
  obtain ⟨hue, hu5⟩ := bU_ix (thF_none hn2)
  refine go_iload_n hC dX2_container_5 rfl ?_
  refine go_callSX (n := 2) hC hSX (c_X2_containerOf M (uN u) hu5 c) gX2_container_X2_containerOf rfl (by decide +kernel) ⟨rfl, rfl⟩ (by rw [hR]; exact ⟨by decide, by decide⟩) (by rw [hR]; exact ⟨by decide, by decide⟩) rfl (by decide) (by decide) rfl rfl rfl (Nat.le_of_ble_eq_true rfl) dX2_container_6 (fun E h => by obtain ⟨hp, rfl⟩ := thF_some h; exact thF_t (Or.inr (Or.inl hp))) (fun hn6 => ?_)
  simp only [gm_r0, gm_r1]
  obtain ⟨hce, hc2⟩ := bC_ix (thF_none hn6)
  refine go_astore hC dX2_container_9 (Nat.le_of_ble_eq_true rfl) ?_
  simp only [gm_s0, gm_s1]
  refine go_iload_n hC dX2_container_11 rfl ?_
  by_cases w0 : y = 0
  ·
    subst w0
    refine go_tabIn (off := 32) hC 44 dX2_container_12 (by decide) (by decide) (by decide) (by decide) ?_
    refine go_aload hC dX2_container_44 rfl ?_
    refine go_callV (n := 0) (k0 := 0) (n0 := (2 * uN u + uN c)) hC hX (c_X0_load _ _ (q (2 * uN u + uN c)) (by omega) (hq (2 * uN u + uN c) (by omega)).1 (hq (2 * uN u + uN c) (by omega)).2) gX2_container_X0_load rfl (by decide +kernel) ⟨rfl, rfl⟩ (by rw [hR]; exact ⟨by decide, by decide⟩) (by rw [hR]; exact ⟨by decide, by decide⟩) rfl rfl rfl (by first | decide | (show _ < 5; omega) | (show _ < 10; omega) | omega) rfl rfl rfl (Nat.le_of_ble_eq_true rfl) dX2_container_46 ?_
    simp only [gm_r0, gm_r1]
    refine go_cast ?_ rfl (hE _ _ _ _ (by decide) (by decide) (thF_f (fun q => q.elim (thF_none hn2) (fun q => q.elim (thF_none hn6) (by decide)))) dX2_container_49)
    rfl
  by_cases w1 : y = 1
  ·
    subst w1
    refine go_tabIn (off := 38) hC 50 dX2_container_12 (by decide) (by decide) (by decide) (by decide) ?_
    refine go_aload hC dX2_container_50 rfl ?_
    refine go_geti (ci := 0) hC 8 kwX2_container_0 rfl rfl (by decide) rfl lkX2_container_209 (by first | decide | (show _ < 5; omega) | (show _ < 10; omega) | omega) dX2_container_52 ?_
    refine go_cast ?_ rfl (hE _ _ _ _ (by decide) (by decide) (thF_f (fun q => q.elim (thF_none hn2) (fun q => q.elim (thF_none hn6) (by decide)))) dX2_container_55)
    rfl
  by_cases w2 : y = 2
  ·
    subst w2
    refine go_tabIn (off := 44) hC 56 dX2_container_12 (by decide) (by decide) (by decide) (by decide) ?_
    refine go_aload hC dX2_container_56 rfl ?_
    refine go_geti (ci := 0) hC 9 kwX2_container_0 rfl rfl (by decide) rfl lkX2_container_212 (by first | decide | (show _ < 5; omega) | (show _ < 10; omega) | omega) dX2_container_58 ?_
    refine go_cast ?_ rfl (hE _ _ _ _ (by decide) (by decide) (thF_f (fun q => q.elim (thF_none hn2) (fun q => q.elim (thF_none hn6) (by decide)))) dX2_container_61)
    rfl
  by_cases w3 : y = 3
  ·
    subst w3
    refine go_tabIn (off := 50) hC 62 dX2_container_12 (by decide) (by decide) (by decide) (by decide) ?_
    refine go_aload hC dX2_container_62 rfl ?_
    refine go_geti (ci := 0) hC 2 kwX2_container_0 rfl rfl (by decide) rfl lkX2_container_106 (by first | decide | (show _ < 5; omega) | (show _ < 10; omega) | omega) dX2_container_64 ?_
    refine go_cast ?_ rfl (hE _ _ _ _ (by decide) (by decide) (thF_f (fun q => q.elim (thF_none hn2) (fun q => q.elim (thF_none hn6) (by decide)))) dX2_container_67)
    rfl
  have hsw := swOut y 3 (by decide) (fun k hk => by rcases (show k = 0 ∨ k = 1 ∨ k = 2 ∨ k = 3 by omega) with rfl | rfl | rfl | rfl; exact w0; exact w1; exact w2; exact w3)
  refine go_tabOut hC 68 dX2_container_12 hsw (by decide) ?_
  exact hT _ _ _ _ _ _ "java/lang/IllegalArgumentException" "what" _ (thF_t (Or.inr (Or.inr hsw))) (by decide) (by decide) (by decide) (by decide) ltX2_container_Ik ltX2_container_Ii ltX2_container_Ig rfl (by decide) (by decide) (by decide) (by decide) dX2_container_68 dX2_container_71 dX2_container_72 dX2_container_74 dX2_container_77
end
