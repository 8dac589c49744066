/-! ===== contracts of methods that may throw ===== -/
def sbs : List (Nat × String) := [(39, "serial"), (47, "way"), (55, "no unit is away"), (77, "fixed, assured or most"), (79, "weight"), (92, "more than can be contracted"), (99, "slots"), (104, "blocks"), (112, "no room for a datagram"), (118, "key"), (124, "a key waits"), (138, "feeder"), (200, "what"), (217, "k"), (232, "which"), (234, "unit"), (236, "unit is away"), (238, "container")]
def xNames : List String := ["java/lang/RuntimeException", "java/lang/Exception"]
def xW (ic : Nat) (E : String) : List Cond := vx_atS RX2 ic E xNames
/-- the three that are thrown: the entry of the constructor, the name -/
def xs3 : List (Nat × String) := [(41, "java/lang/IllegalArgumentException"), (57, "java/lang/IllegalStateException"), (219, "java/lang/IndexOutOfBoundsException")]
def xOdd : List Cond := [.castable "java/lang/IllegalArgumentException" "java/lang/IllegalArgumentException", .castable "java/lang/IllegalStateException" "java/lang/IllegalStateException", .castable "java/lang/IndexOutOfBoundsException" "java/lang/IndexOutOfBoundsException", .declares (Bundle.initS "java/lang/RuntimeException"), .declares (Bundle.initS "java/lang/Exception"), .declares (Bundle.initS Bundle.tN)]
theorem xW_odd : ∀ q ∈ xs3, ∀ w ∈ (xW q.1 q.2).filter (fun w => !goodWord w), w ∈ xOdd := by decide +kernel
theorem xW_ot : ∀ q ∈ xs3, ∀ w ∈ xW q.1 q.2, vx_ot w = true := by decide +kernel
theorem xs_fit : ∀ q ∈ xs3, Bundle.fit q.2 = true := by decide +kernel
theorem xn_fit : ∀ n ∈ xNames, Bundle.fit n = true := by decide +kernel
def TW (U : State) : Prop := ∀ w ∈ xOdd, va_Nw w U
theorem TW.warm {s U : State} (hW : s.WarmedH U.vm) (h : TW s) : TW U := by
  intro w hw
  have h1 := h w hw
  simp only [xOdd, List.mem_cons, List.not_mem_nil, or_false] at hw
  rcases hw with rfl | rfl | rfl | rfl | rfl | rfl
  · exact va_Nw.warmC hW h1
  · exact va_Nw.warmC hW h1
  · exact va_Nw.warmC hW h1
  · exact va_Nw.warmD hW h1
  · exact va_Nw.warmD hW h1
  · exact va_Nw.warmD hW h1
theorem TW.use {U : State} {args : Array Value} (h : TW U) : ∀ w ∈ xOdd, w.before args U = true := by
  intro w hw
  have h1 := h w hw
  refine va_Nw.use ?_ h1
  simp only [xOdd, List.mem_cons, List.not_mem_nil, or_false] at hw
  rcases hw with rfl | rfl | rfl | rfl | rfl | rfl <;> rfl
theorem TW.same {u U : State} (hv : u.vm = U.vm) (h : TW u) : TW U := by
  intro w hw
  have h1 := h w hw
  refine va_Nw.same ?_ hv h1
  simp only [xOdd, List.mem_cons, List.not_mem_nil, or_false] at hw
  rcases hw with rfl | rfl | rfl | rfl | rfl | rfl <;> rfl
/-- the texts, Throwable's statics, the odd words -/
def SBH (A : Nat → Prop) (U : State) (H : Heap) : Prop := (∀ q ∈ sbs, ∃ sa, vk_R RX2 q.1 q.2 sa U) ∧ vx_Zq Bundle.tN "UNASSIGNED_STACK" Bundle.steD A U H ∧ vx_Zq Bundle.tN "SUPPRESSED_SENTINEL" Bundle.listD A U H ∧ TW U
theorem SBH.call {A A1 : Nat → Prop} {s U : State} {H : Heap} {locs : List Loc} (h : SBH A s s.heap) (hS : va_S A s.heap H locs) (hA : ∀ q, A1 q → A q) (hW : s.WarmedH U.vm) (hU : U.heap = H) : SBH A1 U U.heap := by
  obtain ⟨h1, h2, h3, h4⟩ := h
  rw [hU]
  refine ⟨fun q hq => ?_, ?_, ?_, TW.warm hW h4⟩
  · obtain ⟨sa, h⟩ := h1 q hq
    exact ⟨sa, vk_R.warm hW h⟩
  · exact vx_Zq.moved hW.alike ((vx_Zq.kept h2 hS.2.1).narrow hA)
  · exact vx_Zq.moved hW.alike ((vx_Zq.kept h3 hS.2.1).narrow hA)
theorem SBH.same {A : Nat → Prop} {u U : State} {H : Heap} (hv : u.vm = U.vm) (h : SBH A u H) : SBH A U H := by
  obtain ⟨h1, h2, h3, h4⟩ := h
  refine ⟨fun q hq => ?_, ?_, ?_, TW.same hv h4⟩
  · obtain ⟨sa, h⟩ := h1 q hq
    exact ⟨sa, vk_R.same hv.symm h⟩
  · exact vx_Zq.moved (by rw [hv]; exact Vm.Alike.refl _) h2
  · exact vx_Zq.moved (by rw [hv]; exact Vm.Alike.refl _) h3
def PX (Ly : gm_L) (D : va_G) (cy : Nat → ClassId) (ad : Nat → Nat → Nat) (as : List Value) (M : gm_M) (sz : Nat) : Array Value → State → Prop := va_Pc as (fun U => U.heap.size = sz ∧ gm_P D Ly cy ad M U.heap ∧ va_K D vwCl (gm_ty cy) U ∧ NW U ∧ SBH (AW Ly ad sz) U U.heap)
def QX (Ly : gm_L) (D : va_G) (cy : Nat → ClassId) (ad : Nat → Nat → Nat) (th : Option String) (v : Option Value) (M' : gm_M) (sz : Nat) : Array Value → State → Outcome → State → Prop := fun _ st oc t => (th = none ∧ oc = .returned v ∧ gm_P D Ly cy ad M' t.heap) ∧ va_F (AW Ly ad sz) st t
def XX (Ly : gm_L) (D : va_G) (cy : Nat → ClassId) (ad : Nat → Nat → Nat) (th : Option String) (M : gm_M) (sz : Nat) : String → State → State → Prop := fun E st t => th = some E ∧ gm_P D Ly cy ad M t.heap ∧ va_F (AW Ly ad sz) st t
/-- a contract: it throws what th says, and then nothing has moved; else as KC -/
def KX (Ly : gm_L) (y : MethodName) (ws : List Cond) (rm : Room) (as : (Nat → Nat → Nat) → List Value) (M : gm_M) (th : Option String) (v : (Nat → Nat → Nat) → Option Value) (M' : gm_M) (mc ms : Nat) : Prop := ∀ (l : Launch), l.stackTraces = false → ∀ (D : va_G) (cy : Nat → ClassId) (ad : Nat → Nat → Nat) (sz : Nat), gm_I Ly ad → vx_Met l y ws rm (PX Ly D cy ad (as ad) M sz) (QX Ly D cy ad th (v ad) M' sz) (XX Ly D cy ad th M sz) mc ms (AW Ly ad sz)
theorem PX.blind {Ly : gm_L} {D : va_G} {cy : Nat → ClassId} {ad : Nat → Nat → Nat} {as : List Value} {M : gm_M} {sz : Nat} : FrameBlind (PX Ly D cy ad as M sz) := fun a U g mk q => by
  obtain ⟨q0, q1, qP, qK, qN, qS⟩ := q
  exact ⟨q0, q1, qP, va_K.moved (u := U) (U := U.calling g mk a) (Vm.Alike.refl U.vm) qK, NW.same (u := U) (U := U.calling g mk a) rfl qN, SBH.same (u := U) (U := U.calling g mk a) rfl qS⟩
/-- what a walk that may throw has beside CX -/
def SX (Ly : gm_L) (X : gm_X) (th : Option String) (M : gm_M) (mc ms : Nat) : Prop := match X with
  | (p, l, e, R, s, m, args, below, meth, c, (D, cy, ad), A, Q) => l.stackTraces = false ∧ SBH A s s.heap ∧ NW s ∧ ∀ (H : Heap) (locs : List Loc) (ls : Array Slot) (pc ce sl : Nat) (rest : List Value) (E : String) (cell : Cell) (q : Addr), th = some E → ce ≤ mc → sl ≤ ms → gm_P D Ly cy ad M H → va_S A s.heap H locs → H[q]? = some cell → cell.vm = .none → s.vm.findClass E = some cell.cls → vx_W p l e R s m args below meth c H locs ce sl Q (F0 m pc ls rest) q
theorem KX.of_i {Ly : gm_L} {y : MethodName} {ws ws' : List Cond} {rm : Room} {cc : ByteArray} {maxL mc ms : Nat} {as : (Nat → Nat → Nat) → List Value} {M M' : gm_M} {th : Option String} {r : Int32} (hy : plainName y.cls = true) (hw : ws = Cond.code y cc maxL (some .int) :: ws') (hown : y.cls = RX2) (hlen : ∀ ad, (as ad).length ≤ maxL) (hcat : ∀ ad, ∀ v ∈ as ad, v.category = 1) 
    (body : ∀ X : gm_X, CX Ly X cc RX2 ws maxL → gm_R X = rm → SX Ly X th M mc ms
      → (∀ (ce sl pc : Nat) (L : List (Option Value)), ce ≤ mc → sl ≤ ms → th = none → decode cc pc = .ok (.ireturn, 1) → GO Ly X ce sl pc L [.int r] M')
      → (∀ (ce sl pc ik is ic : Nat) (E text : String) (L : List (Option Value)), th = some E → ce + 1 ≤ mc → sl + 6 ≤ ms → (ic, E) ∈ xs3 → (is, text) ∈ sbs → Cond.classLink RX2 ik E ∈ ws → Cond.initialized E ∈ ws → (∀ w ∈ (xW ic E).filter goodWord, w ∈ ws) → L.length = maxL → 5 < rm.frames → 82 ≤ rm.locals → ce + 1 ≤ rm.cells → sl + 6 ≤ rm.slots
          → decode cc pc = .ok (.new ik, 3) → decode cc (pc + 3) = .ok (.dup, 1) → decode cc (pc + 4) = .ok (.ldc is, 2) → decode cc (pc + 6) = .ok (.invokespecial ic, 3) → decode cc (pc + 9) = .ok (.athrow, 1) → GO Ly X ce sl pc L [] M)
      → GO Ly X 0 0 0 ((as (gm_ad X)).map some ++ List.replicate (maxL - (as (gm_ad X)).length) none) [] M) : KX Ly y ws rm as M th (fun _ => some (.int r)) M' mc ms := by
  intro l hst D cy ad sz hI
  refine vx_ofW (cc := cc) (maxL := maxL) (ret := some .int) hy hw ?_
  intro p e s m args below meth c s₁ B hml htab hv
  obtain ⟨rfl, hsz, hP, hK, hN, hSB⟩ := hv
  have hx := B.exec
  have hb := B.bytes
  have hr := B.returns
  have hts := atoms_spec (ws := ws) B.pre
  have hown' : s.vm.findClass RX2 = some m.cls := by rw [← hown]; exact findClass_of_methodNamed B.named
  have hlocks := B.notSynchronized
  subst hsz
  have hC : CX Ly (p, l, e, rm, s, m, (as ad).toArray, below, meth, c, (D, cy, ad), AW Ly ad s.heap.size, vx_MQ below (QX Ly D cy ad th ((fun _ => some (.int r)) ad) M' s.heap.size) (XX Ly D cy ad th M s.heap.size) (as ad).toArray s mc ms (AW Ly ad s.heap.size)) cc RX2 ws maxL := ⟨hx, hb, hml, hown', hts, hK, hI, fun k n h => Or.inl ⟨k, n, h, rfl⟩, fun q h => Or.inr h, hlocks⟩
  have hSX : SX Ly (p, l, e, rm, s, m, (as ad).toArray, below, meth, c, (D, cy, ad), AW Ly ad s.heap.size, vx_MQ below (QX Ly D cy ad th ((fun _ => some (.int r)) ad) M' s.heap.size) (XX Ly D cy ad th M s.heap.size) (as ad).toArray s mc ms (AW Ly ad s.heap.size)) th M mc ms := by
    refine ⟨hst, hSB, hN, ?_⟩
    intro H locs ls pc ce sl rest E cell q hth hc1 hc2 hP2 hS2 h1 h2 h3
    exact vx_out (fun x hx => absurd (htab x hx) id) hlocks h1 h2 h3 (fun t ht _ => ⟨hth, by rw [ht]; exact hP2, hS2.F ht⟩) hS2.2.2 hc1 hc2
  have key := body _ hC rfl hSX (by
    intro ce sl pc L h1 h2 hth hd2
    refine go_widen h1 h2 ?_
    intro H locs ls hP2 hS2 hl2
    exact vx_ret (W.iret hx hb hr (fun t ht _ => ⟨⟨hth, rfl, by rw [ht]; exact hP2⟩, hS2.F ht⟩) hS2.2.2 hd2)) (by
    intro ce sl pc ik is ic E text L hth h1 h2 hE hs hk hini hgood hLn hf hlo hcel hslo d0 d3 d4 d6 d9
    intro H locs ls hP2 hS2 hl2
    obtain ⟨sa, hsa⟩ := hSB.1 _ hs
    exact vx_throwS (names := xNames) hx hb hst hown' (xs_fit _ hE) xn_fit (hts _ hk) (hts _ hini) hsa (vx_hat (fun w hw => hts w (hgood w hw)) (xW_odd _ hE) (TW.use hSB.2.2.2)) (fun w hw => by
      rcases List.mem_cons.mp hw with rfl | hw
      · rfl
      · rcases List.mem_cons.mp hw with rfl | hw
        · rfl
        · exact xW_ot _ hE w hw) hSB.2.1 hSB.2.2.1 hS2 (by rw [hl2.1, hLn, hml]) d0 d3 d4 d6 d9 (fun x hx => absurd (htab x hx) id) hf hlo hcel hslo hlocks
      (fun t ht hz hk2 => ⟨hth, gm_P.kept hP2 (fun k n hn => hk2 _ (hP2 k n hn).lt), Nat.le_trans hS2.1 hz, fun q h1 h2 => by rw [hk2 q (Nat.lt_of_lt_of_le h1 hS2.1)]; exact hS2.2.1 q h1 h2⟩) hS2.2.2 h1 h2)
  rw [lg_entry_eq]
  exact key s.heap [] _ hP va_S.rf (gm_entry _ _ (hlen ad) (hcat ad))
theorem KX.of_v {Ly : gm_L} {y : MethodName} {ws ws' : List Cond} {rm : Room} {cc : ByteArray} {maxL mc ms : Nat} {as : (Nat → Nat → Nat) → List Value} {M M' : gm_M} {th : Option String}  (hy : plainName y.cls = true) (hw : ws = Cond.code y cc maxL (none) :: ws') (hown : y.cls = RX2) (hlen : ∀ ad, (as ad).length ≤ maxL) (hcat : ∀ ad, ∀ v ∈ as ad, v.category = 1) 
    (body : ∀ X : gm_X, CX Ly X cc RX2 ws maxL → gm_R X = rm → SX Ly X th M mc ms
      → (∀ (ce sl pc : Nat) (L : List (Option Value)), ce ≤ mc → sl ≤ ms → th = none → decode cc pc = .ok (.return_, 1) → GO Ly X ce sl pc L [] M')
      → (∀ (ce sl pc ik is ic : Nat) (E text : String) (L : List (Option Value)), th = some E → ce + 1 ≤ mc → sl + 6 ≤ ms → (ic, E) ∈ xs3 → (is, text) ∈ sbs → Cond.classLink RX2 ik E ∈ ws → Cond.initialized E ∈ ws → (∀ w ∈ (xW ic E).filter goodWord, w ∈ ws) → L.length = maxL → 5 < rm.frames → 82 ≤ rm.locals → ce + 1 ≤ rm.cells → sl + 6 ≤ rm.slots
          → decode cc pc = .ok (.new ik, 3) → decode cc (pc + 3) = .ok (.dup, 1) → decode cc (pc + 4) = .ok (.ldc is, 2) → decode cc (pc + 6) = .ok (.invokespecial ic, 3) → decode cc (pc + 9) = .ok (.athrow, 1) → GO Ly X ce sl pc L [] M)
      → GO Ly X 0 0 0 ((as (gm_ad X)).map some ++ List.replicate (maxL - (as (gm_ad X)).length) none) [] M) : KX Ly y ws rm as M th (fun _ => none) M' mc ms := by
  intro l hst D cy ad sz hI
  refine vx_ofW (cc := cc) (maxL := maxL) (ret := none) hy hw ?_
  intro p e s m args below meth c s₁ B hml htab hv
  obtain ⟨rfl, hsz, hP, hK, hN, hSB⟩ := hv
  have hx := B.exec
  have hb := B.bytes
  have hr := B.returns
  have hts := atoms_spec (ws := ws) B.pre
  have hown' : s.vm.findClass RX2 = some m.cls := by rw [← hown]; exact findClass_of_methodNamed B.named
  have hlocks := B.notSynchronized
  subst hsz
  have hC : CX Ly (p, l, e, rm, s, m, (as ad).toArray, below, meth, c, (D, cy, ad), AW Ly ad s.heap.size, vx_MQ below (QX Ly D cy ad th ((fun _ => none) ad) M' s.heap.size) (XX Ly D cy ad th M s.heap.size) (as ad).toArray s mc ms (AW Ly ad s.heap.size)) cc RX2 ws maxL := ⟨hx, hb, hml, hown', hts, hK, hI, fun k n h => Or.inl ⟨k, n, h, rfl⟩, fun q h => Or.inr h, hlocks⟩
  have hSX : SX Ly (p, l, e, rm, s, m, (as ad).toArray, below, meth, c, (D, cy, ad), AW Ly ad s.heap.size, vx_MQ below (QX Ly D cy ad th ((fun _ => none) ad) M' s.heap.size) (XX Ly D cy ad th M s.heap.size) (as ad).toArray s mc ms (AW Ly ad s.heap.size)) th M mc ms := by
    refine ⟨hst, hSB, hN, ?_⟩
    intro H locs ls pc ce sl rest E cell q hth hc1 hc2 hP2 hS2 h1 h2 h3
    exact vx_out (fun x hx => absurd (htab x hx) id) hlocks h1 h2 h3 (fun t ht _ => ⟨hth, by rw [ht]; exact hP2, hS2.F ht⟩) hS2.2.2 hc1 hc2
  have key := body _ hC rfl hSX (by
    intro ce sl pc L h1 h2 hth hd2
    refine go_widen h1 h2 ?_
    intro H locs ls hP2 hS2 hl2
    exact vx_ret (W.vret hx hb hr (fun t ht _ => ⟨⟨hth, rfl, by rw [ht]; exact hP2⟩, hS2.F ht⟩) hS2.2.2 hd2)) (by
    intro ce sl pc ik is ic E text L hth h1 h2 hE hs hk hini hgood hLn hf hlo hcel hslo d0 d3 d4 d6 d9
    intro H locs ls hP2 hS2 hl2
    obtain ⟨sa, hsa⟩ := hSB.1 _ hs
    exact vx_throwS (names := xNames) hx hb hst hown' (xs_fit _ hE) xn_fit (hts _ hk) (hts _ hini) hsa (vx_hat (fun w hw => hts w (hgood w hw)) (xW_odd _ hE) (TW.use hSB.2.2.2)) (fun w hw => by
      rcases List.mem_cons.mp hw with rfl | hw
      · rfl
      · rcases List.mem_cons.mp hw with rfl | hw
        · rfl
        · exact xW_ot _ hE w hw) hSB.2.1 hSB.2.2.1 hS2 (by rw [hl2.1, hLn, hml]) d0 d3 d4 d6 d9 (fun x hx => absurd (htab x hx) id) hf hlo hcel hslo hlocks
      (fun t ht hz hk2 => ⟨hth, gm_P.kept hP2 (fun k n hn => hk2 _ (hP2 k n hn).lt), Nat.le_trans hS2.1 hz, fun q h1 h2 => by rw [hk2 q (Nat.lt_of_lt_of_le h1 hS2.1)]; exact hS2.2.1 q h1 h2⟩) hS2.2.2 h1 h2)
  rw [lg_entry_eq]
  exact key s.heap [] _ hP va_S.rf (gm_entry _ _ (hlen ad) (hcat ad))
theorem KX.of_a {Ly : gm_L} {y : MethodName} {ws ws' : List Cond} {rm : Room} {cc : ByteArray} {maxL mc ms : Nat} {as : (Nat → Nat → Nat) → List Value} {M M' : gm_M} {th : Option String} {rc : String} {rv : (Nat → Nat → Nat) → Value} (hy : plainName y.cls = true) (hw : ws = Cond.code y cc maxL (some (.object rc)) :: ws') (hown : y.cls = RX2) (hlen : ∀ ad, (as ad).length ≤ maxL) (hcat : ∀ ad, ∀ v ∈ as ad, v.category = 1) (hrv : ∀ ad, rv ad = .null ∨ ∃ a, rv ad = .ref a)
    (body : ∀ X : gm_X, CX Ly X cc RX2 ws maxL → gm_R X = rm → SX Ly X th M mc ms
      → (∀ (ce sl pc : Nat) (L : List (Option Value)), ce ≤ mc → sl ≤ ms → th = none → decode cc pc = .ok (.areturn, 1) → GO Ly X ce sl pc L [rv (gm_ad X)] M')
      → (∀ (ce sl pc ik is ic : Nat) (E text : String) (L : List (Option Value)), th = some E → ce + 1 ≤ mc → sl + 6 ≤ ms → (ic, E) ∈ xs3 → (is, text) ∈ sbs → Cond.classLink RX2 ik E ∈ ws → Cond.initialized E ∈ ws → (∀ w ∈ (xW ic E).filter goodWord, w ∈ ws) → L.length = maxL → 5 < rm.frames → 82 ≤ rm.locals → ce + 1 ≤ rm.cells → sl + 6 ≤ rm.slots
          → decode cc pc = .ok (.new ik, 3) → decode cc (pc + 3) = .ok (.dup, 1) → decode cc (pc + 4) = .ok (.ldc is, 2) → decode cc (pc + 6) = .ok (.invokespecial ic, 3) → decode cc (pc + 9) = .ok (.athrow, 1) → GO Ly X ce sl pc L [] M)
      → GO Ly X 0 0 0 ((as (gm_ad X)).map some ++ List.replicate (maxL - (as (gm_ad X)).length) none) [] M) : KX Ly y ws rm as M th (fun ad => some (rv ad)) M' mc ms := by
  intro l hst D cy ad sz hI
  refine vx_ofW (cc := cc) (maxL := maxL) (ret := some (.object rc)) hy hw ?_
  intro p e s m args below meth c s₁ B hml htab hv
  obtain ⟨rfl, hsz, hP, hK, hN, hSB⟩ := hv
  have hx := B.exec
  have hb := B.bytes
  have hr := B.returns
  have hts := atoms_spec (ws := ws) B.pre
  have hown' : s.vm.findClass RX2 = some m.cls := by rw [← hown]; exact findClass_of_methodNamed B.named
  have hlocks := B.notSynchronized
  subst hsz
  have hC : CX Ly (p, l, e, rm, s, m, (as ad).toArray, below, meth, c, (D, cy, ad), AW Ly ad s.heap.size, vx_MQ below (QX Ly D cy ad th ((fun ad => some (rv ad)) ad) M' s.heap.size) (XX Ly D cy ad th M s.heap.size) (as ad).toArray s mc ms (AW Ly ad s.heap.size)) cc RX2 ws maxL := ⟨hx, hb, hml, hown', hts, hK, hI, fun k n h => Or.inl ⟨k, n, h, rfl⟩, fun q h => Or.inr h, hlocks⟩
  have hSX : SX Ly (p, l, e, rm, s, m, (as ad).toArray, below, meth, c, (D, cy, ad), AW Ly ad s.heap.size, vx_MQ below (QX Ly D cy ad th ((fun ad => some (rv ad)) ad) M' s.heap.size) (XX Ly D cy ad th M s.heap.size) (as ad).toArray s mc ms (AW Ly ad s.heap.size)) th M mc ms := by
    refine ⟨hst, hSB, hN, ?_⟩
    intro H locs ls pc ce sl rest E cell q hth hc1 hc2 hP2 hS2 h1 h2 h3
    exact vx_out (fun x hx => absurd (htab x hx) id) hlocks h1 h2 h3 (fun t ht _ => ⟨hth, by rw [ht]; exact hP2, hS2.F ht⟩) hS2.2.2 hc1 hc2
  have key := body _ hC rfl hSX (by
    intro ce sl pc L h1 h2 hth hd2
    refine go_widen h1 h2 ?_
    intro H locs ls hP2 hS2 hl2
    exact vx_ret (W.aret hx hb hr (Or.inl ⟨rc, rfl⟩) (hrv ad) (fun t ht _ => ⟨⟨hth, rfl, by rw [ht]; exact hP2⟩, hS2.F ht⟩) hS2.2.2 hd2)) (by
    intro ce sl pc ik is ic E text L hth h1 h2 hE hs hk hini hgood hLn hf hlo hcel hslo d0 d3 d4 d6 d9
    intro H locs ls hP2 hS2 hl2
    obtain ⟨sa, hsa⟩ := hSB.1 _ hs
    exact vx_throwS (names := xNames) hx hb hst hown' (xs_fit _ hE) xn_fit (hts _ hk) (hts _ hini) hsa (vx_hat (fun w hw => hts w (hgood w hw)) (xW_odd _ hE) (TW.use hSB.2.2.2)) (fun w hw => by
      rcases List.mem_cons.mp hw with rfl | hw
      · rfl
      · rcases List.mem_cons.mp hw with rfl | hw
        · rfl
        · exact xW_ot _ hE w hw) hSB.2.1 hSB.2.2.1 hS2 (by rw [hl2.1, hLn, hml]) d0 d3 d4 d6 d9 (fun x hx => absurd (htab x hx) id) hf hlo hcel hslo hlocks
      (fun t ht hz hk2 => ⟨hth, gm_P.kept hP2 (fun k n hn => hk2 _ (hP2 k n hn).lt), Nat.le_trans hS2.1 hz, fun q h1 h2 => by rw [hk2 q (Nat.lt_of_lt_of_le h1 hS2.1)]; exact hS2.2.1 q h1 h2⟩) hS2.2.2 h1 h2)
  rw [lg_entry_eq]
  exact key s.heap [] _ hP va_S.rf (gm_entry _ _ (hlen ad) (hcat ad))
section GX
variable {Ly : gm_L} {X : gm_X} {cc : ByteArray} {own : String} {Ts : List Cond} {nL ce sl pc : Nat} {L : List (Option Value)} {rest : List Value} {M M' : gm_M}
theorem gm_afterX {p : Program} {l : Launch} {e : Env} {R : Room} {s : State} {m : MethodId} {args : Array Value} {below : List Frame} {meth : Method} {c : Code} {D : va_G} {cy : Nat → ClassId} {ad : Nat → Nat → Nat} {A : Nat → Prop} {Q : State → Prop} {th th1 : Option String} {v : Option Value} {a : Array Value} {H : Heap} {locs : List Loc} {ls : Array Slot} {st : List Value} {mc ms mc1 ms1 : Nat}
    (hAd : ∀ k n : Nat, n < (Ly k).1 → A (ad k n)) (hA : ∀ q : Nat, s.heap.size ≤ q → A q) (hS : va_S A s.heap H locs) (hl : gm_ls ls L)
    (hSX : SX Ly (p, l, e, R, s, m, args, below, meth, c, (D, cy, ad), A, Q) th M mc ms) (hm1 : ce + mc1 ≤ mc) (hm2 : sl + ms1 ≤ ms)
    (hr : vx_Run p l e R s m args below meth c H locs ce sl mc1 ms1 (F0 m pc ls st) rest (QX Ly D cy ad th1 v M' H.size a) (XX Ly D cy ad th1 M H.size) (AW Ly ad H.size))
    (kx : ∀ E, th1 = some E → th = some E)
    (kk : th1 = none → GO Ly (p, l, e, R, s, m, args, below, meth, c, (D, cy, ad), A, Q) (ce + mc1) (sl + ms1) (pc + 3) L (v.toList ++ rest) M') : W p l e R s m args below meth c H locs ce sl Q (F0 m pc ls st) := by
  intro T hT XX9
  have hAi := AW.in (Ly := Ly) (ad := ad) hAd hA hS
  rcases hr T hT XX9 with ⟨v2, st₀, t, T', L', h0, X', hL', e1, e2, ⟨⟨hn, hv, hPB⟩, hF⟩, go⟩ | ⟨q, st₀, t, T', L', E, cell, h0, X', hL', e1, e2, ⟨hth1, hPB, hF⟩, hce, hcv, hcl, go⟩
  · cases hv
    obtain ⟨k1, k2, k3⟩ := vx_keep h0 e1 hS (fun q _ h => hAi q h) hAi hL' hF
    obtain ⟨t2, a1, b1⟩ := kk hn T'.heap (locs ++ L') ls (by rw [e1]; exact hPB) k3 hl T' rfl X'
    exact ⟨t2, go t2 a1, b1⟩
  · obtain ⟨k1, k2, k3⟩ := vx_keep h0 e1 hS (fun q _ h => hAi q h) hAi hL' hF
    obtain ⟨t2, a1, b1⟩ := hSX.2.2.2 T'.heap (locs ++ L') ls pc (ce + mc1) (sl + ms1) rest E cell q (kx E hth1) hm1 hm2 (by rw [e1]; exact hPB) k3 (by rw [e1]; exact hce) hcv hcl T' rfl X'
    exact ⟨t2, go.trans a1, b1⟩
/-- a call of an instance method of ours that may throw -/
theorem go_callVX (hC : CX Ly X cc own Ts nL) {th th1 : Option String} {mc ms mc1 ms1 : Nat} (hSX : SX Ly X th M mc ms) {y : MethodName} {ws ws' : List Cond} {rm : Room} {as : (Nat → Nat → Nat) → List Value} {v : (Nat → Nat → Nat) → Option Value} {bytes : ByteArray} {maxL n index k0 n0 ci N : Nat} {ret : Option FieldType} {C : String} {T : u_T} {sr : Nat → Option Nat} {As st : List Value}
    (hM : KX Ly y ws rm as M th1 v M' mc1 ms1) (hG : GoodIn Ts (wsV own index C y ws)) (hw : ws = Cond.code y bytes maxL ret :: ws') (hd : y.cls = C ∧ y.cls ≠ "java/lang/invoke/MethodHandle" ∧ y.cls ≠ "java/lang/invoke/VarHandle" ∧ (parseMethodDescriptor y.desc).map (fun d => d.parameters.length) = some n) (hcs : rm.cells = mc1 ∧ rm.slots = ms1) (hR : rm.frames + 1 ≤ (gm_R X).frames ∧ 8 + (maxL + 11) + rm.locals ≤ (gm_R X).locals) (hf : ce + mc1 ≤ (gm_R X).cells ∧ sl + ms1 ≤ (gm_R X).slots) (hLn : L.length = nL) (hm1 : ce + mc1 ≤ mc) (hm2 : sl + ms1 ≤ ms)
    (hk : (Ly k0).2 = .inl (ci, N, sr)) (hc : vwCl[ci]? = some (C, T, N)) (hn0 : n0 < (Ly k0).1) (has : as (gm_ad X) = .ref (gm_ad X k0 n0) :: As) (hn : As.length = n) (hst : st = As.reverse ++ .ref (gm_ad X k0 n0) :: rest) (hcat : (rest.map fun v => v.category).sum ≤ 8) (hdg : decode cc pc = .ok (.invokevirtual index, 3))
    (kx : ∀ E, th1 = some E → th = some E) (kk : th1 = none → GO Ly X (ce + mc1) (sl + ms1) (pc + 3) L ((v (gm_ad X)).toList ++ rest) M') : GO Ly X ce sl pc L st M := by
  obtain ⟨p, l, e, R, s, m, args, below, meth, c, ⟨D, cy, ad⟩, A, Q⟩ := X
  obtain ⟨hx, hb, hml, hown, hts, hK, hI, hAd, hA, hlk⟩ := hC
  intro H locs ls hP hS hl
  have h1 := hP k0 n0 hn0
  rw [gm_at_o hk] at h1
  have has' : as ad = .ref (ad k0 n0) :: As := has
  have hM' := hM l hSX.1 D cy ad H.size hI
  rw [has'] at hM'
  exact gm_afterX hAd hA hS hl hSX hm1 hm2 (vx_runV (As := As) (rest := rest) ⟨hx, hb, hml, hown, hts⟩ hM' (cwV n hts hG hw hcs.1 hcs.2 hd hR) ⟨PX.blind, va_recv hK (gm_one h1) (ci := ci) (q0 := 0) hc rfl, fun U hU hW => ⟨rfl, by rw [hU], by rw [hU]; exact hP, va_K.moved hW.alike hK, NW.warm hW hSX.2.2.1, hSX.2.1.call hS (AW.in hAd hA hS) hW hU⟩⟩ rfl hn (hl.1.trans hLn) hst (lv_room hcat) hdg hf) kx kk
/-- a call of a static method of the class that may throw -/
theorem go_callSX (hC : CX Ly X cc own Ts nL) {th th1 : Option String} {mc ms mc1 ms1 : Nat} (hSX : SX Ly X th M mc ms) {y : MethodName} {ws ws' : List Cond} {rm : Room} {as : (Nat → Nat → Nat) → List Value} {v : (Nat → Nat → Nat) → Option Value} {bytes : ByteArray} {maxL n index : Nat} {ret : Option FieldType} {As st : List Value}
    (hM : KX Ly y ws rm as M th1 v M' mc1 ms1) (hG : GoodIn Ts (va_wsS own index y ws)) (hw : ws = Cond.code y bytes maxL ret :: ws') (hd : y.cls ≠ "java/lang/invoke/MethodHandle" ∧ y.cls ≠ "java/lang/invoke/VarHandle" ∧ (parseMethodDescriptor y.desc).map (fun d => d.parameters.length) = some n) (hcs : rm.cells = mc1 ∧ rm.slots = ms1) (hR : rm.frames + 1 ≤ (gm_R X).frames ∧ 8 + (maxL + 11) + rm.locals ≤ (gm_R X).locals) (hf : ce + mc1 ≤ (gm_R X).cells ∧ sl + ms1 ≤ (gm_R X).slots) (hLn : L.length = nL) (hm1 : ce + mc1 ≤ mc) (hm2 : sl + ms1 ≤ ms)
    (has : as (gm_ad X) = As) (hn : As.length = n) (hst : st = As.reverse ++ rest) (hcat : (rest.map fun v => v.category).sum ≤ 8) (hdg : decode cc pc = .ok (.invokestatic index, 3))
    (kx : ∀ E, th1 = some E → th = some E) (kk : th1 = none → GO Ly X (ce + mc1) (sl + ms1) (pc + 3) L ((v (gm_ad X)).toList ++ rest) M') : GO Ly X ce sl pc L st M := by
  obtain ⟨p, l, e, R, s, m, args, below, meth, c, ⟨D, cy, ad⟩, A, Q⟩ := X
  obtain ⟨hx, hb, hml, hown, hts, hK, hI, hAd, hA, hlk⟩ := hC
  intro H locs ls hP hS hl
  have has' : as ad = As := has
  have hM' := hM l hSX.1 D cy ad H.size hI
  rw [has'] at hM'
  exact gm_afterX hAd hA hS hl hSX hm1 hm2 (vx_runS (As := As) (rest := rest) ⟨hx, hb, hml, hown, hts⟩ hM' (va_cwS n hts hG hw hcs.1 hcs.2 hd hR) ⟨PX.blind, fun U hU hW => ⟨rfl, by rw [hU], by rw [hU]; exact hP, va_K.moved hW.alike hK, NW.warm hW hSX.2.2.1, hSX.2.1.call hS (AW.in hAd hA hS) hW hU⟩⟩ rfl hn (hl.1.trans hLn) hst (lv_room hcat) hdg hf) kx kk
end GX
