/-! ===== the helpers of the law ===== -/
def tyL (cy : Nat → ClassId) : List (ClassId × FieldType) := gm_ty cy ++ [(cy 4, .long)]
theorem tyL_K {D : va_G} {cy : Nat → ClassId} {U : State} (h : va_K D vwCl (tyL cy) U) : va_K D vwCl (gm_ty cy) U := va_K.sub h [0, 1, 2, 3] rfl
def lE (cy : Nat → ClassId) (w : Int64) : va_E := .inl (cy 4, 1, .inr (.inl (fun _ => w)))
def AH (ad : Nat → Nat → Nat) (oa sz : Nat) : Nat → Prop := fun q => AW lyC ad sz q ∨ q = oa
def WH (D : va_G) (cy : Nat → ClassId) (ad : Nat → Nat → Nat) (oa : Nat) (M : gm_M) (w : Int64) (H : Heap) : Prop := gm_P D lyC cy ad M H ∧ va_at D vwCl (oa, lE cy w) H
def NCs (U : State) : Prop := va_Nc "java/lang/IllegalStateException" "java/lang/IllegalArgumentException" U ∧ va_Nc "java/lang/IllegalArgumentException" "java/lang/IndexOutOfBoundsException" U
theorem NCs.moved {u U : State} (hvm : u.vm.Alike U.vm) (h : NCs u) : NCs U := ⟨h.1.moved hvm, h.2.moved hvm⟩
def PH (D : va_G) (cy : Nat → ClassId) (ad : Nat → Nat → Nat) (oa : Nat) (as : List Value) (M : gm_M) (w : Int64) (sz : Nat) : Array Value → State → Prop := va_Pc as (fun U => U.heap.size = sz ∧ WH D cy ad oa M w U.heap ∧ va_K D vwCl (tyL cy) U ∧ NW U ∧ SBH (AH ad oa sz) U U.heap ∧ NCs U)
def QH (D : va_G) (cy : Nat → ClassId) (ad : Nat → Nat → Nat) (oa : Nat) (r : Int32) (M' : gm_M) (w' : Int64) (sz : Nat) : Array Value → State → Outcome → State → Prop := fun _ st oc t => (oc = .returned (some (.int r)) ∧ WH D cy ad oa M' w' t.heap) ∧ va_F (AH ad oa sz) st t
def oW (th : Option String) (v : Int32) (w : Int64) : Int64 := match th with
  | none => v.toInt64
  | some _ => w
def XN : String → State → State → Prop := fun _ _ _ => False
def KH (y : MethodName) (ws : List Cond) (rm : Room) (as : (Nat → Nat → Nat) → Nat → List Value) (M : gm_M) (r : Int32) (M' : gm_M) (wf : Int64 → Int64) (mc ms : Nat) : Prop := ∀ (l : Launch), l.stackTraces = false → ∀ (D : va_G) (cy : Nat → ClassId) (ad : Nat → Nat → Nat) (oa sz : Nat) (w : Int64), gm_I lyC ad → (∀ k n, n < (lyC k).1 → ad k n ≠ oa) → vx_Met l y ws rm (PH D cy ad oa (as ad oa) M w sz) (QH D cy ad oa r M' (wf w) sz) XN mc ms (AH ad oa sz)
theorem PH.blind {D : va_G} {cy : Nat → ClassId} {ad : Nat → Nat → Nat} {oa : Nat} {as : List Value} {M : gm_M} {w : Int64} {sz : Nat} : FrameBlind (PH D cy ad oa as M w sz) := fun a U g mk q => by
  obtain ⟨q0, q1, qP, qK, qN, qS, qC⟩ := q
  exact ⟨q0, q1, qP, va_K.moved (u := U) (U := U.calling g mk a) (Vm.Alike.refl U.vm) qK, NW.same (u := U) (U := U.calling g mk a) rfl qN, SBH.same (u := U) (U := U.calling g mk a) rfl qS, NCs.moved (u := U) (U := U.calling g mk a) (Vm.Alike.refl U.vm) qC⟩
/-- what a walk over the class's world and the row 'out' stands on -/
def HX (X : po_X) (D : va_G) (cy : Nat → ClassId) (ad : Nat → Nat → Nat) (oa : Nat) (hh : List (Nat × Nat × Nat × Nat)) : Prop := match X with
  | (p, l, e, R, s, m, args, below, meth, c, A, Q) => l.stackTraces = false ∧ va_K D vwCl (tyL cy) s ∧ NW s ∧ SBH A s s.heap ∧ NCs s ∧ gm_I lyC ad ∧ (∀ k n, n < (lyC k).1 → ad k n ≠ oa) ∧ (∀ k n, n < (lyC k).1 → A (ad k n)) ∧ A oa ∧ c.exceptionTable.toList = tableOf hh
theorem KH.of {y : MethodName} {ws ws' : List Cond} {rm : Room} {cc : ByteArray} {maxL mc ms : Nat} {hh : List (Nat × Nat × Nat × Nat)} {as : (Nat → Nat → Nat) → Nat → List Value} {M M' : gm_M} {r : Int32} {wf : Int64 → Int64} (hy : plainName y.cls = true) (hw : ws = Cond.codeWith y cc maxL (some .int) hh :: ws') (hown : y.cls = RL) (hlen : ∀ ad oa, (as ad oa).length ≤ maxL) (hcat : ∀ ad oa, ∀ v ∈ as ad oa, v.category = 1)
    (body : ∀ (X : po_X) (D : va_G) (cy : Nat → ClassId) (ad : Nat → Nat → Nat) (oa : Nat) (w : Int64), CP X cc RL ws maxL → po_R X = rm → HX X D cy ad oa hh
      → (∀ (ce sl pc : Nat) (L : List (Option Value)), ce ≤ mc → sl ≤ ms → decode cc pc = .ok (.ireturn, 1) → PO X (WH D cy ad oa M' (wf w)) ce sl pc L [.int r])
      → PO X (WH D cy ad oa M w) 0 0 0 ((as ad oa).map some ++ List.replicate (maxL - (as ad oa).length) none) []) : KH y ws rm as M r M' wf mc ms := by
  intro l hst D cy ad oa sz w hI hne
  refine vx_ofWH (cc := cc) (maxL := maxL) (ret := some .int) (hh := hh) hy hw ?_
  intro p e s m args below meth c s₁ B hml hv
  obtain ⟨rfl, hsz, hP, hK, hN, hSB, hNC⟩ := hv
  have hx := B.exec
  have hb := B.bytes
  have hr := B.returns
  have hts := atoms_spec (ws := ws) B.pre
  have hown' : s.vm.findClass RL = some m.cls := by rw [← hown]; exact findClass_of_methodNamed B.named
  have hlocks := B.notSynchronized
  have htab : c.exceptionTable.toList = tableOf hh := vx_table (x := y) B (hts _ (by rw [hw]; exact List.mem_cons_self))
  subst hsz
  have key := body (p, l, e, rm, s, m, (as ad oa).toArray, below, meth, c, AH ad oa s.heap.size, vx_MQ below (QH D cy ad oa r M' (wf w) s.heap.size) XN (as ad oa).toArray s mc ms (AH ad oa s.heap.size)) D cy ad oa w ⟨hx, hb, hml, hown', hts, fun q h => Or.inl (Or.inr h), hlocks⟩ rfl ⟨hst, hK, hN, hSB, hNC, hI, hne, fun k n h => Or.inl (Or.inl ⟨k, n, h, rfl⟩), Or.inr rfl, htab⟩ (by
    intro ce sl pc L h1 h2 hd2
    refine po_widen h1 h2 ?_
    intro H locs ls hP2 hS2 hl2
    exact vx_ret (W.iret hx hb hr (fun t ht _ => ⟨⟨rfl, by rw [ht]; exact hP2⟩, hS2.F ht⟩) hS2.2.2 hd2))
  rw [lg_entry_eq]
  exact key s.heap [] _ hP va_S.rf (gm_entry _ _ (hlen ad oa) (hcat ad oa))
section PH
variable {X : po_X} {D : va_G} {cy : Nat → ClassId} {ad : Nat → Nat → Nat} {oa : Nat} {hh : List (Nat × Nat × Nat × Nat)} {M M' : gm_M} {w : Int64} {cc : ByteArray} {Ts : List Cond} {nL ce sl pc : Nat} {L : List (Option Value)} {rest : List Value}
theorem WH.call {H H1 : Heap} (hne : ∀ k n, n < (lyC k).1 → ad k n ≠ oa) (h : WH D cy ad oa M w H) (hP : gm_P D lyC cy ad M' H1) (hk : ∀ q : Nat, q < H.size → ¬ AW lyC ad H.size q → H1[q]? = H[q]?) : WH D cy ad oa M' w H1 := by
  refine ⟨hP, h.2.kept (hk _ h.2.lt ?_)⟩
  intro q
  rcases q with ⟨k, n, h1, h2⟩ | q
  · exact hne k n h1 h2.symm
  · exact absurd h.2.lt (Nat.not_lt.mpr q)
theorem po_hcall (hC : CP X cc RL Ts nL) (hH : HX X D cy ad oa hh) {th : Option String} {mc1 ms1 : Nat} {y : MethodName} {ws ws' : List Cond} {rm : Room} {as : (Nat → Nat → Nat) → List Value} {v : (Nat → Nat → Nat) → Option Value} {bytes : ByteArray} {maxL n index : Nat} {ret : Option FieldType} {As st : List Value}
    (hM : KX lyC y ws rm as M th v M' mc1 ms1) (hG : GoodIn Ts (wsV RL index RX2 y ws)) (hw : ws = Cond.code y bytes maxL ret :: ws') (hd : y.cls = RX2 ∧ y.cls ≠ "java/lang/invoke/MethodHandle" ∧ y.cls ≠ "java/lang/invoke/VarHandle" ∧ (parseMethodDescriptor y.desc).map (fun d => d.parameters.length) = some n) (hcs : rm.cells = mc1 ∧ rm.slots = ms1) (hR : rm.frames + 1 ≤ (po_R X).frames ∧ 8 + (maxL + 11) + rm.locals ≤ (po_R X).locals) (hf : ce + mc1 ≤ (po_R X).cells ∧ sl + ms1 ≤ (po_R X).slots) (hLn : L.length = nL)
    (has : as ad = .ref (ad 2 0) :: As) (hn : As.length = n) (hst : st = As.reverse ++ .ref (ad 2 0) :: rest) (hcat : (rest.map fun v => v.category).sum ≤ 8) (hdg : decode cc pc = .ok (.invokevirtual index, 3))
    (kx : ∀ E, th = some E → ∃ (pre : List ExceptionTableEntry) (x : ExceptionTableEntry) (suf : List ExceptionTableEntry), tableOf hh = pre ++ x :: suf ∧ (∀ z ∈ pre, covers z pc = false ∨ (z.catchType ≠ 0 ∧ ∃ nm : String, Cond.classLink RL z.catchType nm ∈ Ts ∧ ∀ U, NCs U → va_Nc E nm U)) ∧ covers x pc = true ∧ x.catchType ≠ 0 ∧ (∃ name : String, Cond.classLink RL x.catchType name ∈ Ts ∧ Cond.castable E name ∈ xOdd) ∧ ∀ q : Addr, PO X (WH D cy ad oa M w) (ce + mc1) (sl + ms1) x.handlerPc L [.ref q])
    (kk : th = none → PO X (WH D cy ad oa M' w) (ce + mc1) (sl + ms1) (pc + 3) L ((v ad).toList ++ rest)) : PO X (WH D cy ad oa M w) ce sl pc L st := by
  obtain ⟨p, l, e, R, s, m, args, below, meth, c, A, Q⟩ := X
  obtain ⟨hx, hb, hml, hown, hts, hA, hlk⟩ := hC
  obtain ⟨hst9, hK, hN, hSB, hNC, hI, hne, hAd, hAo, htab⟩ := hH
  intro H locs ls hP hS hl
  have h1 := hP.1 2 0 (by decide)
  rw [gm_at_o (Ly := lyC) (k := 2) rfl] at h1
  have hM' := hM l hst9 D cy ad H.size hI
  rw [has] at hM'
  have hAi := AW.in (Ly := lyC) (ad := ad) hAd hA hS
  have hr := vx_runV (As := As) (rest := rest) (g := F0 m pc ls st) (l := l) (e := e) (R := R) (below := below) (meth := meth) (locs := locs) (cells := ce) (slots := sl) ⟨hx, hb, hml, hown, hts⟩ hM' (cwV n hts hG hw hcs.1 hcs.2 hd hR) ⟨PX.blind, va_recv hK (gm_one h1) (ci := 2) (q0 := 0) rfl rfl, fun U hU hW => ⟨rfl, by rw [hU], by rw [hU]; exact hP.1, va_K.moved hW.alike (tyL_K hK), NW.warm hW hN, hSB.call hS hAi hW hU⟩⟩ rfl hn (hl.1.trans hLn) hst (lv_room hcat) hdg hf
  intro T hT XX9
  rcases hr T hT XX9 with ⟨v2, st₀, t, T', L', h0, X', hL', e1, e2, ⟨⟨hn9, hv, hPB⟩, hF⟩, go⟩ | ⟨q, st₀, t, T', L', E, cell, h0, X', hL', e1, e2, ⟨hth1, hPB, hF⟩, hce, hcv, hcl, go⟩
  · cases hv
    obtain ⟨k1, k2, k3⟩ := vx_keep h0 e1 hS (fun q _ h => hAi q h) hAi hL' hF
    have hk : ∀ q : Nat, q < H.size → ¬ AW lyC ad H.size q → T'.heap[q]? = H[q]? := fun q a1 a2 => by rw [e1, hF.2 q (by rw [h0]; exact a1) a2, h0]
    obtain ⟨t2, a1, b1⟩ := kk hn9 T'.heap (locs ++ L') ls (hP.call hne (by rw [e1]; exact hPB) hk) k3 hl T' rfl X'
    exact ⟨t2, go t2 a1, b1⟩
  · obtain ⟨k1, k2, k3⟩ := vx_keep h0 e1 hS (fun q _ h => hAi q h) hAi hL' hF
    have hk : ∀ q : Nat, q < H.size → ¬ AW lyC ad H.size q → T'.heap[q]? = H[q]? := fun q a1 a2 => by rw [e1, hF.2 q (by rw [h0]; exact a1) a2, h0]
    obtain ⟨pre, x, suf, x1, x2, x3, x4, ⟨name, x5, x6⟩, x7⟩ := kx E hth1
    have hcat9 := vx_catch (p := p) (l := l) (e := e) (R := R) (below := below) (meth := meth) (locs := locs ++ L') (cells := ce + mc1) (slots := sl + ms1) (Q := Q) (ls := ls) (rest := rest) (args := args) (H := T'.heap) (q := q) (E := E) (ce := cell) (name := name) hown pre x suf (htab.trans x1) (fun z hz => by
        rcases x2 z hz with h | ⟨h, nm, h2, h3⟩
        · exact Or.inl h
        · exact Or.inr ⟨h, nm, hts _ h2, h3 s hNC⟩) x3 x4 (hts _ x5) (TW.use hSB.2.2.2 _ x6) (by rw [e1]; exact hce) hcv hcl (x7 q T'.heap (locs ++ L') ls (hP.call hne (by rw [e1]; exact hPB) hk) k3 hl)
    obtain ⟨t2, a1, b1⟩ := hcat9 T' rfl X'
    exact ⟨t2, go.trans a1, b1⟩
theorem po_hout (hC : CP X cc RL Ts nL) (hH : HX X D cy ad oa hh) {x : Int64} (hdg : decode cc pc = .ok (.lastore, 1)) (k : PO X (WH D cy ad oa M x) ce sl (pc + 1) L rest) : PO X (WH D cy ad oa M w) ce sl pc L (.long x :: .int 0 :: .ref oa :: rest) := by
  obtain ⟨p, l, e, R, s, m, args, below, meth, c, A, Q⟩ := X
  obtain ⟨hx, hb, hml, hown, hts, hA, hlk⟩ := hC
  obtain ⟨hst9, hK, hN, hSB, hNC, hI, hne, hAd, hAo, htab⟩ := hH
  intro H locs ls hP hS hl
  have hat : H[oa]? = some (vp_cell (cy 4) (1, .inr (.inl (fun _ => w)))) := hP.2
  refine W.last hx hb hat ((hK.2 4 _ rfl).1 1 (fun j => .long w)) (fun q => by cases q) (by show ¬ ((0 : Int32) < 0 ∨ (arrV _ _ _).slots.size ≤ _); rw [arrV_size]; exact (by decide : ¬ ((0 : Int32) < 0 ∨ 1 ≤ Int32.toNatClampNeg 0))) rfl rfl hdg fun H1 e9 z oq => ?_
  refine k H1 _ ls ⟨gm_P.kept hP.1 (fun k n hn => oq _ (hne k n hn)), ?_⟩ (hS.put z oq hAo) hl
  show H1[oa]? = some (vp_cell (cy 4) (1, .inr (.inl (fun _ => x))))
  rw [e9, vp_cell_l, vp_cell_l, arrV_store]
  unfold arrV
  congr 3
  funext j
  have hj : j.val = 0 := by have := j.isLt; omega
  show updV _ _ _ j.val = _
  rw [hj]
  rfl
end PH
theorem thF1 {P : Prop} {E1 E : String} (h : thF P E1 none = some E) : E = E1 := by
  by_cases p : P
  · rw [thF_t p] at h; exact (Option.some.inj h).symm
  · rw [thF_f p] at h; cases h
theorem thF2 {P Q : Prop} {E1 E2 E : String} (h : thF P E1 (thF Q E2 none) = some E) : E = E1 ∨ E = E2 := by
  by_cases p : P
  · rw [thF_t p] at h; exact Or.inl (Option.some.inj h).symm
  · rw [thF_f p] at h; exact Or.inr (thF1 h)
theorem hlplug_0 : Cond.classLink RL 13 "java/lang/IllegalArgumentException" ∈ wsL_plug := by decide +kernel
theorem hlplug_1 : Cond.classLink RL 15 "java/lang/IllegalStateException" ∈ wsL_plug := by decide +kernel
set_option maxHeartbeats 4000000 in
set_option maxRecDepth 100000 in
theorem h_plug (M : gm_M) (a y : Int32) : KH yL_plug wsL_plug { frames := 7, cells := 1, slots := 6, locals := 114 } (fun ad oa => [.ref (ad 2 0), .int a, .int y, .ref oa]) M (cod1 (thF (a < 0 ∨ 9999 < a ∨ (∃ k, k < 5 ∧ (¬ M 1 1 k = 0 ∧ M 1 2 k = a)) ∨ ¬ (¬ y < 100 ∧ ¬ 600 < y)) "java/lang/IllegalArgumentException" (thF (faD M 5 0 = 5) "java/lang/IllegalStateException" none))) (tO (thF (a < 0 ∨ 9999 < a ∨ (∃ k, k < 5 ∧ (¬ M 1 1 k = 0 ∧ M 1 2 k = a)) ∨ ¬ (¬ y < 100 ∧ ¬ 600 < y)) "java/lang/IllegalArgumentException" (thF (faD M 5 0 = 5) "java/lang/IllegalStateException" none)) (gm_up (gm_up (gm_up M 1 1 (faD M 5 0) 1) 1 2 (faD M 5 0) a) 1 3 (faD M 5 0) y) M) (fun w => oW (thF (a < 0 ∨ 9999 < a ∨ (∃ k, k < 5 ∧ (¬ M 1 1 k = 0 ∧ M 1 2 k = a)) ∨ ¬ (¬ y < 100 ∧ ¬ 600 < y)) "java/lang/IllegalArgumentException" (thF (faD M 5 0 = 5) "java/lang/IllegalStateException" none)) ((nI (faD M 5 0))) w) 1 6 := by
  generalize hth : (thF (a < 0 ∨ 9999 < a ∨ (∃ k, k < 5 ∧ (¬ M 1 1 k = 0 ∧ M 1 2 k = a)) ∨ ¬ (¬ y < 100 ∧ ¬ 600 < y)) "java/lang/IllegalArgumentException" (thF (faD M 5 0 = 5) "java/lang/IllegalStateException" none)) = th
  have hc : KX lyC yX2_plug wsX2_plug { frames := 6, cells := 1, slots := 6, locals := 90 } (fun ad => [.ref (ad 2 0), .int a, .int y]) M th (fun _ => some (.int (nI (faD M 5 0)))) (gm_up (gm_up (gm_up M 1 1 (faD M 5 0) 1) 1 2 (faD M 5 0) a) 1 3 (faD M 5 0) y) 1 6 := by rw [← hth]; exact c_X2_plug M a y
  have hE9 : ∀ E, th = some E → E = "java/lang/IllegalArgumentException" ∨ E = "java/lang/IllegalStateException" := fun E h => thF2 (hth.trans h)
  clear hth
  refine KH.of (by decide) rfl rfl (fun _ _ => by simp) (fun _ _ => by simp [Value.category]) ?_
  intro X D cy ad oa w hC hR hH hE
  simp only [List.map_cons, List.map_nil, List.cons_append, List.nil_append, List.length_cons, List.length_nil, List.replicate, Nat.reduceAdd, Nat.reduceSub]
  refine po_aload_n hC dL_plug_0 rfl ?_
  refine po_iconst (v := 0) hC dL_plug_1 (by decide) ?_
  refine po_aload_n hC dL_plug_2 rfl ?_
  refine po_iload_n hC dL_plug_3 rfl ?_
  refine po_iload_n hC dL_plug_4 rfl ?_
  refine po_hcall (n := 2) hC hH hc gL_plug_X2_plug rfl (by decide +kernel) ⟨rfl, rfl⟩ (by rw [hR]; exact ⟨by decide, by decide⟩) (by rw [hR]; exact ⟨by decide, by decide⟩) rfl rfl rfl rfl (Nat.le_of_ble_eq_true rfl) dL_plug_5 (fun E hE8 => ?_) (fun hn0 => ?_)
  · rcases hE9 E hE8 with rfl | rfl
    · refine ⟨[], ⟨0, 10, 13, 13⟩, [⟨0, 10, 17, 15⟩], rfl, (fun z hz => by cases hz), by decide, by decide, ⟨"java/lang/IllegalArgumentException", hlplug_0, by decide +kernel⟩, fun q => ?_⟩
      dsimp only
      refine po_astore hC dL_plug_13 (Nat.le_of_ble_eq_true rfl) ?_
      simp only [gm_s0, gm_s1]
      refine po_iconst (v := 1) hC dL_plug_15 (by decide) ?_
      refine po_mono (fun H h => ?_) (po_cast ?_ (hE _ _ _ _ (by decide) (by decide) dL_plug_16))
      · rw [hE8]; exact h
      · rw [hE8]; rfl
    · refine ⟨[⟨0, 10, 13, 13⟩], ⟨0, 10, 17, 15⟩, [], rfl, (fun z hz => by rcases List.mem_cons.mp hz with rfl | hz; exact Or.inr ⟨by decide, "java/lang/IllegalArgumentException", hlplug_0, fun U hU => hU.1⟩; cases hz), by decide, by decide, ⟨"java/lang/IllegalStateException", hlplug_1, by decide +kernel⟩, fun q => ?_⟩
      dsimp only
      refine po_astore hC dL_plug_17 (Nat.le_of_ble_eq_true rfl) ?_
      simp only [gm_s0, gm_s1]
      refine po_iconst (v := 2) hC dL_plug_19 (by decide) ?_
      refine po_mono (fun H h => ?_) (po_cast ?_ (hE _ _ _ _ (by decide) (by decide) dL_plug_20))
      · rw [hE8]; exact h
      · rw [hE8]; rfl
  · subst hn0
    simp only [gm_r0]
    refine po_i2l hC dL_plug_8 ?_
    refine po_hout hC hH dL_plug_9 ?_
    refine po_goto hC 21 dL_plug_10 (by decide) ?_
    refine po_iconst (v := 0) hC dL_plug_21 (by decide) ?_
    exact hE _ _ _ _ (by decide) (by decide) dL_plug_22
theorem hlunplug_0 : Cond.classLink RL 13 "java/lang/IllegalArgumentException" ∈ wsL_unplug := by decide +kernel
set_option maxHeartbeats 4000000 in
set_option maxRecDepth 100000 in
theorem h_unplug (M : gm_M) (u : Int32) : KH yL_unplug wsL_unplug { frames := 9, cells := 2, slots := 12, locals := 154 } (fun ad oa => [.ref (ad 2 0), .int u]) M (cod1 (thF (aW M u) "java/lang/IllegalArgumentException" none)) (tO (thF (aW M u) "java/lang/IllegalArgumentException" none) (uClear M (uN u)) M) (fun w => w) 2 12 := by
  generalize hth : (thF (aW M u) "java/lang/IllegalArgumentException" none) = th
  have hc : KX lyC yX2_unplug wsX2_unplug { frames := 8, cells := 2, slots := 12, locals := 133 } (fun ad => [.ref (ad 2 0), .int u]) M th (fun _ => none) (uClear M (uN u)) 2 12 := by rw [← hth]; exact c_X2_unplug M u
  have hE9 : ∀ E, th = some E → E = "java/lang/IllegalArgumentException" := fun E h => thF1 (hth.trans h)
  clear hth
  refine KH.of (by decide) rfl rfl (fun _ _ => by simp) (fun _ _ => by simp [Value.category]) ?_
  intro X D cy ad oa w hC hR hH hE
  simp only [List.map_cons, List.map_nil, List.cons_append, List.nil_append, List.length_cons, List.length_nil, List.replicate, Nat.reduceAdd, Nat.reduceSub]
  refine po_aload_n hC dL_unplug_0 rfl ?_
  refine po_iload_n hC dL_unplug_1 rfl ?_
  refine po_hcall (n := 1) hC hH hc gL_unplug_X2_unplug rfl (by decide +kernel) ⟨rfl, rfl⟩ (by rw [hR]; exact ⟨by decide, by decide⟩) (by rw [hR]; exact ⟨by decide, by decide⟩) rfl rfl rfl rfl (Nat.le_of_ble_eq_true rfl) dL_unplug_2 (fun E hE8 => ?_) (fun hn0 => ?_)
  · rcases hE9 E hE8 with rfl
    · refine ⟨[], ⟨0, 5, 8, 13⟩, [], rfl, (fun z hz => by cases hz), by decide, by decide, ⟨"java/lang/IllegalArgumentException", hlunplug_0, by decide +kernel⟩, fun q => ?_⟩
      dsimp only
      refine po_astore_n hC 2 dL_unplug_8 rfl (Nat.le_of_ble_eq_true rfl) ?_
      simp only [gm_s0, gm_s1]
      refine po_iconst (v := 1) hC dL_unplug_9 (by decide) ?_
      refine po_mono (fun H h => ?_) (po_cast ?_ (hE _ _ _ _ (by decide) (by decide) dL_unplug_10))
      · rw [hE8]; exact h
      · rw [hE8]; rfl
  · subst hn0
    simp only [gm_r1]
    refine po_goto hC 11 dL_unplug_5 (by decide) ?_
    refine po_iconst (v := 0) hC dL_unplug_11 (by decide) ?_
    exact hE _ _ _ _ (by decide) (by decide) dL_unplug_12
theorem hlcontract_0 : Cond.classLink RL 13 "java/lang/IllegalArgumentException" ∈ wsL_contract := by decide +kernel
theorem hlcontract_1 : Cond.classLink RL 15 "java/lang/IllegalStateException" ∈ wsL_contract := by decide +kernel
set_option maxHeartbeats 4000000 in
set_option maxRecDepth 100000 in
theorem h_contract (M : gm_M) (u c f a m g : Int32) : KH yL_contract wsL_contract { frames := 10, cells := 4, slots := 24, locals := 182 } (fun ad oa => [.ref (ad 2 0), .int u, .int c, .int f, .int a, .int m, .int g]) M (cod1 (thF (aW M u ∨ bC c ∨ f < 0 ∨ a < 0 ∨ 60 < m ∨ ¬ lg_cmp (f.toInt64 + a.toInt64) m.toInt64 ≤ 0 ∨ g < 1 ∨ ¬ g ≤ 9) "java/lang/IllegalArgumentException" (thF (¬ ((((bx_sum (fun k => M 0 4 k + M 0 5 k) 10 - M 0 4 (2 * uN u + uN c)) - M 0 5 (2 * uN u + uN c)) + f) + a) ≤ 55) "java/lang/IllegalStateException" none))) (tO (thF (aW M u ∨ bC c ∨ f < 0 ∨ a < 0 ∨ 60 < m ∨ ¬ lg_cmp (f.toInt64 + a.toInt64) m.toInt64 ≤ 0 ∨ g < 1 ∨ ¬ g ≤ 9) "java/lang/IllegalArgumentException" (thF (¬ ((((bx_sum (fun k => M 0 4 k + M 0 5 k) 10 - M 0 4 (2 * uN u + uN c)) - M 0 5 (2 * uN u + uN c)) + f) + a) ≤ 55) "java/lang/IllegalStateException" none)) (ctF M (2 * uN u + uN c) f a m g) M) (fun w => w) 4 24 := by
  generalize hth : (thF (aW M u ∨ bC c ∨ f < 0 ∨ a < 0 ∨ 60 < m ∨ ¬ lg_cmp (f.toInt64 + a.toInt64) m.toInt64 ≤ 0 ∨ g < 1 ∨ ¬ g ≤ 9) "java/lang/IllegalArgumentException" (thF (¬ ((((bx_sum (fun k => M 0 4 k + M 0 5 k) 10 - M 0 4 (2 * uN u + uN c)) - M 0 5 (2 * uN u + uN c)) + f) + a) ≤ 55) "java/lang/IllegalStateException" none)) = th
  have hc : KX lyC yX2_contract wsX2_contract { frames := 9, cells := 4, slots := 24, locals := 155 } (fun ad => [.ref (ad 2 0), .int u, .int c, .int f, .int a, .int m, .int g]) M th (fun _ => none) (ctF M (2 * uN u + uN c) f a m g) 4 24 := by rw [← hth]; exact c_X2_contract M u c f a m g
  have hE9 : ∀ E, th = some E → E = "java/lang/IllegalArgumentException" ∨ E = "java/lang/IllegalStateException" := fun E h => thF2 (hth.trans h)
  clear hth
  refine KH.of (by decide) rfl rfl (fun _ _ => by simp) (fun _ _ => by simp [Value.category]) ?_
  intro X D cy ad oa w hC hR hH hE
  simp only [List.map_cons, List.map_nil, List.cons_append, List.nil_append, List.length_cons, List.length_nil, List.replicate, Nat.reduceAdd, Nat.reduceSub]
  refine po_aload_n hC dL_contract_0 rfl ?_
  refine po_iload_n hC dL_contract_1 rfl ?_
  refine po_iload_n hC dL_contract_2 rfl ?_
  refine po_iload_n hC dL_contract_3 rfl ?_
  refine po_iload hC dL_contract_4 rfl ?_
  refine po_iload hC dL_contract_6 rfl ?_
  refine po_iload hC dL_contract_8 rfl ?_
  refine po_hcall (n := 6) hC hH hc gL_contract_X2_contract rfl (by decide +kernel) ⟨rfl, rfl⟩ (by rw [hR]; exact ⟨by decide, by decide⟩) (by rw [hR]; exact ⟨by decide, by decide⟩) rfl rfl rfl rfl (Nat.le_of_ble_eq_true rfl) dL_contract_10 (fun E hE8 => ?_) (fun hn0 => ?_)
  · rcases hE9 E hE8 with rfl | rfl
    · refine ⟨[], ⟨0, 13, 16, 13⟩, [⟨0, 13, 20, 15⟩], rfl, (fun z hz => by cases hz), by decide, by decide, ⟨"java/lang/IllegalArgumentException", hlcontract_0, by decide +kernel⟩, fun q => ?_⟩
      dsimp only
      refine po_astore hC dL_contract_16 (Nat.le_of_ble_eq_true rfl) ?_
      simp only [gm_s0, gm_s1]
      refine po_iconst (v := 1) hC dL_contract_18 (by decide) ?_
      refine po_mono (fun H h => ?_) (po_cast ?_ (hE _ _ _ _ (by decide) (by decide) dL_contract_19))
      · rw [hE8]; exact h
      · rw [hE8]; rfl
    · refine ⟨[⟨0, 13, 16, 13⟩], ⟨0, 13, 20, 15⟩, [], rfl, (fun z hz => by rcases List.mem_cons.mp hz with rfl | hz; exact Or.inr ⟨by decide, "java/lang/IllegalArgumentException", hlcontract_0, fun U hU => hU.1⟩; cases hz), by decide, by decide, ⟨"java/lang/IllegalStateException", hlcontract_1, by decide +kernel⟩, fun q => ?_⟩
      dsimp only
      refine po_astore hC dL_contract_20 (Nat.le_of_ble_eq_true rfl) ?_
      simp only [gm_s0, gm_s1]
      refine po_iconst (v := 2) hC dL_contract_22 (by decide) ?_
      refine po_mono (fun H h => ?_) (po_cast ?_ (hE _ _ _ _ (by decide) (by decide) dL_contract_23))
      · rw [hE8]; exact h
      · rw [hE8]; rfl
  · subst hn0
    simp only [gm_r1]
    refine po_goto hC 24 dL_contract_13 (by decide) ?_
    refine po_iconst (v := 0) hC dL_contract_24 (by decide) ?_
    exact hE _ _ _ _ (by decide) (by decide) dL_contract_25
theorem hldrift_0 : Cond.classLink RL 13 "java/lang/IllegalArgumentException" ∈ wsL_drift := by decide +kernel
set_option maxHeartbeats 4000000 in
set_option maxRecDepth 100000 in
theorem h_drift (M : gm_M) (u a : Int32) : KH yL_drift wsL_drift { frames := 9, cells := 3, slots := 18, locals := 156 } (fun ad oa => [.ref (ad 2 0), .int u, .int a]) M (cod1 (thF (aW M u ∨ a < -2 ∨ 2 < a ∨ ¬ (¬ (M 1 3 (uN u) + a) < 100 ∧ ¬ 600 < (M 1 3 (uN u) + a))) "java/lang/IllegalArgumentException" none)) (tO (thF (aW M u ∨ a < -2 ∨ 2 < a ∨ ¬ (¬ (M 1 3 (uN u) + a) < 100 ∧ ¬ 600 < (M 1 3 (uN u) + a))) "java/lang/IllegalArgumentException" none) (drF M (uN u) a) M) (fun w => w) 3 18 := by
  generalize hth : (thF (aW M u ∨ a < -2 ∨ 2 < a ∨ ¬ (¬ (M 1 3 (uN u) + a) < 100 ∧ ¬ 600 < (M 1 3 (uN u) + a))) "java/lang/IllegalArgumentException" none) = th
  have hc : KX lyC yX2_drift wsX2_drift { frames := 8, cells := 3, slots := 18, locals := 133 } (fun ad => [.ref (ad 2 0), .int u, .int a]) M th (fun _ => none) (drF M (uN u) a) 3 18 := by rw [← hth]; exact c_X2_drift M u a
  have hE9 : ∀ E, th = some E → E = "java/lang/IllegalArgumentException" := fun E h => thF1 (hth.trans h)
  clear hth
  refine KH.of (by decide) rfl rfl (fun _ _ => by simp) (fun _ _ => by simp [Value.category]) ?_
  intro X D cy ad oa w hC hR hH hE
  simp only [List.map_cons, List.map_nil, List.cons_append, List.nil_append, List.length_cons, List.length_nil, List.replicate, Nat.reduceAdd, Nat.reduceSub]
  refine po_aload_n hC dL_drift_0 rfl ?_
  refine po_iload_n hC dL_drift_1 rfl ?_
  refine po_iload_n hC dL_drift_2 rfl ?_
  refine po_hcall (n := 2) hC hH hc gL_drift_X2_drift rfl (by decide +kernel) ⟨rfl, rfl⟩ (by rw [hR]; exact ⟨by decide, by decide⟩) (by rw [hR]; exact ⟨by decide, by decide⟩) rfl rfl rfl rfl (Nat.le_of_ble_eq_true rfl) dL_drift_3 (fun E hE8 => ?_) (fun hn0 => ?_)
  · rcases hE9 E hE8 with rfl
    · refine ⟨[], ⟨0, 6, 9, 13⟩, [], rfl, (fun z hz => by cases hz), by decide, by decide, ⟨"java/lang/IllegalArgumentException", hldrift_0, by decide +kernel⟩, fun q => ?_⟩
      dsimp only
      refine po_astore_n hC 3 dL_drift_9 rfl (Nat.le_of_ble_eq_true rfl) ?_
      simp only [gm_s0, gm_s1]
      refine po_iconst (v := 1) hC dL_drift_10 (by decide) ?_
      refine po_mono (fun H h => ?_) (po_cast ?_ (hE _ _ _ _ (by decide) (by decide) dL_drift_11))
      · rw [hE8]; exact h
      · rw [hE8]; rfl
  · subst hn0
    simp only [gm_r1]
    refine po_goto hC 12 dL_drift_6 (by decide) ?_
    refine po_iconst (v := 0) hC dL_drift_12 (by decide) ?_
    exact hE _ _ _ _ (by decide) (by decide) dL_drift_13
theorem hlsend_0 : Cond.classLink RL 13 "java/lang/IllegalArgumentException" ∈ wsL_send := by decide +kernel
theorem hlsend_1 : Cond.classLink RL 15 "java/lang/IllegalStateException" ∈ wsL_send := by decide +kernel
set_option maxHeartbeats 4000000 in
set_option maxRecDepth 100000 in
theorem h_send (M : gm_M) (u c b : Int32) (q : Nat → Nat) (hq : ∀ n, n < 10 → M 0 2 n = nI (q n) ∧ q n ≤ 8) : KH yL_send wsL_send { frames := 10, cells := 4, slots := 24, locals := 179 } (fun ad oa => [.ref (ad 2 0), .int u, .int c, .int b, .ref oa]) M (cod1 (thF (aW M u ∨ bC c ∨ b < 1 ∨ ¬ b ≤ 20) "java/lang/IllegalArgumentException" (thF (M 0 2 (2 * uN u + uN c) = 8 ∨ M 2 10 0 = 100) "java/lang/IllegalStateException" none))) (tO (thF (aW M u ∨ bC c ∨ b < 1 ∨ ¬ b ≤ 20) "java/lang/IllegalArgumentException" (thF (M 0 2 (2 * uN u + uN c) = 8 ∨ M 2 10 0 = 100) "java/lang/IllegalStateException" none)) (sdF M (2 * uN u + uN c) (q (2 * uN u + uN c)) b) M) (fun w => oW (thF (aW M u ∨ bC c ∨ b < 1 ∨ ¬ b ≤ 20) "java/lang/IllegalArgumentException" (thF (M 0 2 (2 * uN u + uN c) = 8 ∨ M 2 10 0 = 100) "java/lang/IllegalStateException" none)) ((M 2 10 0)) w) 4 24 := by
  generalize hth : (thF (aW M u ∨ bC c ∨ b < 1 ∨ ¬ b ≤ 20) "java/lang/IllegalArgumentException" (thF (M 0 2 (2 * uN u + uN c) = 8 ∨ M 2 10 0 = 100) "java/lang/IllegalStateException" none)) = th
  have hc : KX lyC yX2_send wsX2_send { frames := 9, cells := 4, slots := 24, locals := 155 } (fun ad => [.ref (ad 2 0), .int u, .int c, .int b]) M th (fun _ => some (.int (M 2 10 0))) (sdF M (2 * uN u + uN c) (q (2 * uN u + uN c)) b) 4 24 := by rw [← hth]; exact c_X2_send M u c b q hq
  have hE9 : ∀ E, th = some E → E = "java/lang/IllegalArgumentException" ∨ E = "java/lang/IllegalStateException" := fun E h => thF2 (hth.trans h)
  clear hth
  refine KH.of (by decide) rfl rfl (fun _ _ => by simp) (fun _ _ => by simp [Value.category]) ?_
  intro X D cy ad oa w hC hR hH hE
  simp only [List.map_cons, List.map_nil, List.cons_append, List.nil_append, List.length_cons, List.length_nil, List.replicate, Nat.reduceAdd, Nat.reduceSub]
  refine po_aload hC dL_send_0 rfl ?_
  refine po_iconst (v := 0) hC dL_send_2 (by decide) ?_
  refine po_aload_n hC dL_send_3 rfl ?_
  refine po_iload_n hC dL_send_4 rfl ?_
  refine po_iload_n hC dL_send_5 rfl ?_
  refine po_iload_n hC dL_send_6 rfl ?_
  refine po_hcall (n := 3) hC hH hc gL_send_X2_send rfl (by decide +kernel) ⟨rfl, rfl⟩ (by rw [hR]; exact ⟨by decide, by decide⟩) (by rw [hR]; exact ⟨by decide, by decide⟩) rfl rfl rfl rfl (Nat.le_of_ble_eq_true rfl) dL_send_7 (fun E hE8 => ?_) (fun hn0 => ?_)
  · rcases hE9 E hE8 with rfl | rfl
    · refine ⟨[], ⟨0, 12, 15, 13⟩, [⟨0, 12, 19, 15⟩], rfl, (fun z hz => by cases hz), by decide, by decide, ⟨"java/lang/IllegalArgumentException", hlsend_0, by decide +kernel⟩, fun q => ?_⟩
      dsimp only
      refine po_astore hC dL_send_15 (Nat.le_of_ble_eq_true rfl) ?_
      simp only [gm_s0, gm_s1]
      refine po_iconst (v := 1) hC dL_send_17 (by decide) ?_
      refine po_mono (fun H h => ?_) (po_cast ?_ (hE _ _ _ _ (by decide) (by decide) dL_send_18))
      · rw [hE8]; exact h
      · rw [hE8]; rfl
    · refine ⟨[⟨0, 12, 15, 13⟩], ⟨0, 12, 19, 15⟩, [], rfl, (fun z hz => by rcases List.mem_cons.mp hz with rfl | hz; exact Or.inr ⟨by decide, "java/lang/IllegalArgumentException", hlsend_0, fun U hU => hU.1⟩; cases hz), by decide, by decide, ⟨"java/lang/IllegalStateException", hlsend_1, by decide +kernel⟩, fun q => ?_⟩
      dsimp only
      refine po_astore hC dL_send_19 (Nat.le_of_ble_eq_true rfl) ?_
      simp only [gm_s0, gm_s1]
      refine po_iconst (v := 2) hC dL_send_21 (by decide) ?_
      refine po_mono (fun H h => ?_) (po_cast ?_ (hE _ _ _ _ (by decide) (by decide) dL_send_22))
      · rw [hE8]; exact h
      · rw [hE8]; rfl
  · subst hn0
    simp only [gm_r0]
    refine po_i2l hC dL_send_10 ?_
    refine po_hout hC hH dL_send_11 ?_
    refine po_goto hC 23 dL_send_12 (by decide) ?_
    refine po_iconst (v := 0) hC dL_send_23 (by decide) ?_
    exact hE _ _ _ _ (by decide) (by decide) dL_send_24
theorem hlkey_0 : Cond.classLink RL 13 "java/lang/IllegalArgumentException" ∈ wsL_key := by decide +kernel
theorem hlkey_1 : Cond.classLink RL 15 "java/lang/IllegalStateException" ∈ wsL_key := by decide +kernel
set_option maxHeartbeats 4000000 in
set_option maxRecDepth 100000 in
theorem h_key (M : gm_M) (u a : Int32) : KH yL_key wsL_key { frames := 9, cells := 3, slots := 18, locals := 156 } (fun ad oa => [.ref (ad 2 0), .int u, .int a]) M (cod1 (thF (aW M u ∨ a < 0 ∨ ¬ a ≤ 99) "java/lang/IllegalArgumentException" (thF (¬ M 1 7 (uN u) = 0) "java/lang/IllegalStateException" none))) (tO (thF (aW M u ∨ a < 0 ∨ ¬ a ≤ 99) "java/lang/IllegalArgumentException" (thF (¬ M 1 7 (uN u) = 0) "java/lang/IllegalStateException" none)) (gm_up (gm_up M 1 7 (uN u) 1) 1 8 (uN u) a) M) (fun w => w) 3 18 := by
  generalize hth : (thF (aW M u ∨ a < 0 ∨ ¬ a ≤ 99) "java/lang/IllegalArgumentException" (thF (¬ M 1 7 (uN u) = 0) "java/lang/IllegalStateException" none)) = th
  have hc : KX lyC yX2_key wsX2_key { frames := 8, cells := 3, slots := 18, locals := 133 } (fun ad => [.ref (ad 2 0), .int u, .int a]) M th (fun _ => none) (gm_up (gm_up M 1 7 (uN u) 1) 1 8 (uN u) a) 3 18 := by rw [← hth]; exact c_X2_key M u a
  have hE9 : ∀ E, th = some E → E = "java/lang/IllegalArgumentException" ∨ E = "java/lang/IllegalStateException" := fun E h => thF2 (hth.trans h)
  clear hth
  refine KH.of (by decide) rfl rfl (fun _ _ => by simp) (fun _ _ => by simp [Value.category]) ?_
  intro X D cy ad oa w hC hR hH hE
  simp only [List.map_cons, List.map_nil, List.cons_append, List.nil_append, List.length_cons, List.length_nil, List.replicate, Nat.reduceAdd, Nat.reduceSub]
  refine po_aload_n hC dL_key_0 rfl ?_
  refine po_iload_n hC dL_key_1 rfl ?_
  refine po_iload_n hC dL_key_2 rfl ?_
  refine po_hcall (n := 2) hC hH hc gL_key_X2_key rfl (by decide +kernel) ⟨rfl, rfl⟩ (by rw [hR]; exact ⟨by decide, by decide⟩) (by rw [hR]; exact ⟨by decide, by decide⟩) rfl rfl rfl rfl (Nat.le_of_ble_eq_true rfl) dL_key_3 (fun E hE8 => ?_) (fun hn0 => ?_)
  · rcases hE9 E hE8 with rfl | rfl
    · refine ⟨[], ⟨0, 6, 9, 13⟩, [⟨0, 6, 12, 15⟩], rfl, (fun z hz => by cases hz), by decide, by decide, ⟨"java/lang/IllegalArgumentException", hlkey_0, by decide +kernel⟩, fun q => ?_⟩
      dsimp only
      refine po_astore_n hC 3 dL_key_9 rfl (Nat.le_of_ble_eq_true rfl) ?_
      simp only [gm_s0, gm_s1]
      refine po_iconst (v := 1) hC dL_key_10 (by decide) ?_
      refine po_mono (fun H h => ?_) (po_cast ?_ (hE _ _ _ _ (by decide) (by decide) dL_key_11))
      · rw [hE8]; exact h
      · rw [hE8]; rfl
    · refine ⟨[⟨0, 6, 9, 13⟩], ⟨0, 6, 12, 15⟩, [], rfl, (fun z hz => by rcases List.mem_cons.mp hz with rfl | hz; exact Or.inr ⟨by decide, "java/lang/IllegalArgumentException", hlkey_0, fun U hU => hU.1⟩; cases hz), by decide, by decide, ⟨"java/lang/IllegalStateException", hlkey_1, by decide +kernel⟩, fun q => ?_⟩
      dsimp only
      refine po_astore_n hC 3 dL_key_12 rfl (Nat.le_of_ble_eq_true rfl) ?_
      simp only [gm_s0, gm_s1]
      refine po_iconst (v := 2) hC dL_key_13 (by decide) ?_
      refine po_mono (fun H h => ?_) (po_cast ?_ (hE _ _ _ _ (by decide) (by decide) dL_key_14))
      · rw [hE8]; exact h
      · rw [hE8]; rfl
  · subst hn0
    simp only [gm_r1]
    refine po_goto hC 15 dL_key_6 (by decide) ?_
    refine po_iconst (v := 0) hC dL_key_15 (by decide) ?_
    exact hE _ _ _ _ (by decide) (by decide) dL_key_16
theorem hldown_0 : Cond.classLink RL 13 "java/lang/IllegalArgumentException" ∈ wsL_down := by decide +kernel
set_option maxHeartbeats 4000000 in
set_option maxRecDepth 100000 in
theorem h_down (M : gm_M) (u a : Int32) : KH yL_down wsL_down { frames := 9, cells := 2, slots := 12, locals := 156 } (fun ad oa => [.ref (ad 2 0), .int u, .int a]) M (cod1 (thF (aW M u) "java/lang/IllegalArgumentException" none)) (tO (thF (aW M u) "java/lang/IllegalArgumentException" none) (gm_up (gm_up M 1 10 (uN u) 1) 1 11 (uN u) a) M) (fun w => w) 2 12 := by
  generalize hth : (thF (aW M u) "java/lang/IllegalArgumentException" none) = th
  have hc : KX lyC yX2_down wsX2_down { frames := 8, cells := 2, slots := 12, locals := 133 } (fun ad => [.ref (ad 2 0), .int u, .int a]) M th (fun _ => none) (gm_up (gm_up M 1 10 (uN u) 1) 1 11 (uN u) a) 2 12 := by rw [← hth]; exact c_X2_down M u a
  have hE9 : ∀ E, th = some E → E = "java/lang/IllegalArgumentException" := fun E h => thF1 (hth.trans h)
  clear hth
  refine KH.of (by decide) rfl rfl (fun _ _ => by simp) (fun _ _ => by simp [Value.category]) ?_
  intro X D cy ad oa w hC hR hH hE
  simp only [List.map_cons, List.map_nil, List.cons_append, List.nil_append, List.length_cons, List.length_nil, List.replicate, Nat.reduceAdd, Nat.reduceSub]
  refine po_aload_n hC dL_down_0 rfl ?_
  refine po_iload_n hC dL_down_1 rfl ?_
  refine po_iload_n hC dL_down_2 rfl ?_
  refine po_hcall (n := 2) hC hH hc gL_down_X2_down rfl (by decide +kernel) ⟨rfl, rfl⟩ (by rw [hR]; exact ⟨by decide, by decide⟩) (by rw [hR]; exact ⟨by decide, by decide⟩) rfl rfl rfl rfl (Nat.le_of_ble_eq_true rfl) dL_down_3 (fun E hE8 => ?_) (fun hn0 => ?_)
  · rcases hE9 E hE8 with rfl
    · refine ⟨[], ⟨0, 6, 9, 13⟩, [], rfl, (fun z hz => by cases hz), by decide, by decide, ⟨"java/lang/IllegalArgumentException", hldown_0, by decide +kernel⟩, fun q => ?_⟩
      dsimp only
      refine po_astore_n hC 3 dL_down_9 rfl (Nat.le_of_ble_eq_true rfl) ?_
      simp only [gm_s0, gm_s1]
      refine po_iconst (v := 1) hC dL_down_10 (by decide) ?_
      refine po_mono (fun H h => ?_) (po_cast ?_ (hE _ _ _ _ (by decide) (by decide) dL_down_11))
      · rw [hE8]; exact h
      · rw [hE8]; rfl
  · subst hn0
    simp only [gm_r1]
    refine po_goto hC 12 dL_down_6 (by decide) ?_
    refine po_iconst (v := 0) hC dL_down_12 (by decide) ?_
    exact hE _ _ _ _ (by decide) (by decide) dL_down_13
theorem hlspoil_0 : Cond.classLink RL 13 "java/lang/IllegalArgumentException" ∈ wsL_spoil := by decide +kernel
set_option maxHeartbeats 4000000 in
set_option maxRecDepth 100000 in
theorem h_spoil (M : gm_M) (u : Int32) : KH yL_spoil wsL_spoil { frames := 9, cells := 2, slots := 12, locals := 154 } (fun ad oa => [.ref (ad 2 0), .int u]) M (cod1 (thF (aW M u) "java/lang/IllegalArgumentException" none)) (tO (thF (aW M u) "java/lang/IllegalArgumentException" none) (gm_up M 1 14 (uN u) 1) M) (fun w => w) 2 12 := by
  generalize hth : (thF (aW M u) "java/lang/IllegalArgumentException" none) = th
  have hc : KX lyC yX2_spoil wsX2_spoil { frames := 8, cells := 2, slots := 12, locals := 133 } (fun ad => [.ref (ad 2 0), .int u]) M th (fun _ => none) (gm_up M 1 14 (uN u) 1) 2 12 := by rw [← hth]; exact c_X2_spoil M u
  have hE9 : ∀ E, th = some E → E = "java/lang/IllegalArgumentException" := fun E h => thF1 (hth.trans h)
  clear hth
  refine KH.of (by decide) rfl rfl (fun _ _ => by simp) (fun _ _ => by simp [Value.category]) ?_
  intro X D cy ad oa w hC hR hH hE
  simp only [List.map_cons, List.map_nil, List.cons_append, List.nil_append, List.length_cons, List.length_nil, List.replicate, Nat.reduceAdd, Nat.reduceSub]
  refine po_aload_n hC dL_spoil_0 rfl ?_
  refine po_iload_n hC dL_spoil_1 rfl ?_
  refine po_hcall (n := 1) hC hH hc gL_spoil_X2_spoil rfl (by decide +kernel) ⟨rfl, rfl⟩ (by rw [hR]; exact ⟨by decide, by decide⟩) (by rw [hR]; exact ⟨by decide, by decide⟩) rfl rfl rfl rfl (Nat.le_of_ble_eq_true rfl) dL_spoil_2 (fun E hE8 => ?_) (fun hn0 => ?_)
  · rcases hE9 E hE8 with rfl
    · refine ⟨[], ⟨0, 5, 8, 13⟩, [], rfl, (fun z hz => by cases hz), by decide, by decide, ⟨"java/lang/IllegalArgumentException", hlspoil_0, by decide +kernel⟩, fun q => ?_⟩
      dsimp only
      refine po_astore_n hC 2 dL_spoil_8 rfl (Nat.le_of_ble_eq_true rfl) ?_
      simp only [gm_s0, gm_s1]
      refine po_iconst (v := 1) hC dL_spoil_9 (by decide) ?_
      refine po_mono (fun H h => ?_) (po_cast ?_ (hE _ _ _ _ (by decide) (by decide) dL_spoil_10))
      · rw [hE8]; exact h
      · rw [hE8]; rfl
  · subst hn0
    simp only [gm_r1]
    refine po_goto hC 11 dL_spoil_5 (by decide) ?_
    refine po_iconst (v := 0) hC dL_spoil_11 (by decide) ?_
    exact hE _ _ _ _ (by decide) (by decide) dL_spoil_12
theorem hlfeeder_0 : Cond.classLink RL 13 "java/lang/IllegalArgumentException" ∈ wsL_feeder := by decide +kernel
set_option maxHeartbeats 4000000 in
set_option maxRecDepth 100000 in
theorem h_feeder (M : gm_M) (f z : Int32) : KH yL_feeder wsL_feeder { frames := 7, cells := 1, slots := 6, locals := 112 } (fun ad oa => [.ref (ad 2 0), .int f, .int z]) M (cod1 (thF (bC f) "java/lang/IllegalArgumentException" none)) (tO (thF (bC f) "java/lang/IllegalArgumentException" none) (gm_up M 4 (uN f) 0 (vp_nar .boolean z)) M) (fun w => w) 1 6 := by
  generalize hth : (thF (bC f) "java/lang/IllegalArgumentException" none) = th
  have hc : KX lyC yX2_feeder wsX2_feeder { frames := 6, cells := 1, slots := 6, locals := 90 } (fun ad => [.ref (ad 2 0), .int f, .int z]) M th (fun _ => none) (gm_up M 4 (uN f) 0 (vp_nar .boolean z)) 1 6 := by rw [← hth]; exact c_X2_feeder M f z
  have hE9 : ∀ E, th = some E → E = "java/lang/IllegalArgumentException" := fun E h => thF1 (hth.trans h)
  clear hth
  refine KH.of (by decide) rfl rfl (fun _ _ => by simp) (fun _ _ => by simp [Value.category]) ?_
  intro X D cy ad oa w hC hR hH hE
  simp only [List.map_cons, List.map_nil, List.cons_append, List.nil_append, List.length_cons, List.length_nil, List.replicate, Nat.reduceAdd, Nat.reduceSub]
  refine po_aload_n hC dL_feeder_0 rfl ?_
  refine po_iload_n hC dL_feeder_1 rfl ?_
  refine po_iload_n hC dL_feeder_2 rfl ?_
  refine po_hcall (n := 2) hC hH hc gL_feeder_X2_feeder rfl (by decide +kernel) ⟨rfl, rfl⟩ (by rw [hR]; exact ⟨by decide, by decide⟩) (by rw [hR]; exact ⟨by decide, by decide⟩) rfl rfl rfl rfl (Nat.le_of_ble_eq_true rfl) dL_feeder_3 (fun E hE8 => ?_) (fun hn0 => ?_)
  · rcases hE9 E hE8 with rfl
    · refine ⟨[], ⟨0, 6, 9, 13⟩, [], rfl, (fun z hz => by cases hz), by decide, by decide, ⟨"java/lang/IllegalArgumentException", hlfeeder_0, by decide +kernel⟩, fun q => ?_⟩
      dsimp only
      refine po_astore_n hC 3 dL_feeder_9 rfl (Nat.le_of_ble_eq_true rfl) ?_
      simp only [gm_s0, gm_s1]
      refine po_iconst (v := 1) hC dL_feeder_10 (by decide) ?_
      refine po_mono (fun H h => ?_) (po_cast ?_ (hE _ _ _ _ (by decide) (by decide) dL_feeder_11))
      · rw [hE8]; exact h
      · rw [hE8]; rfl
  · subst hn0
    simp only [gm_r1]
    refine po_goto hC 12 dL_feeder_6 (by decide) ?_
    refine po_iconst (v := 0) hC dL_feeder_12 (by decide) ?_
    exact hE _ _ _ _ (by decide) (by decide) dL_feeder_13
theorem hlunit_0 : Cond.classLink RL 13 "java/lang/IllegalArgumentException" ∈ wsL_unit := by decide +kernel
set_option maxHeartbeats 4000000 in
set_option maxRecDepth 100000 in
theorem h_unit (M : gm_M) (u y : Int32) : KH yL_unit wsL_unit { frames := 8, cells := 2, slots := 12, locals := 134 } (fun ad oa => [.ref (ad 2 0), .int u, .int y, .ref oa]) M (cod1 (thF (bU u ∨ (y.toInt < 0 ∨ (6 : Int) < y.toInt)) "java/lang/IllegalArgumentException" none)) (tO (thF (bU u ∨ (y.toInt < 0 ∨ (6 : Int) < y.toInt)) "java/lang/IllegalArgumentException" none) (M) M) (fun w => oW (thF (bU u ∨ (y.toInt < 0 ∨ (6 : Int) < y.toInt)) "java/lang/IllegalArgumentException" none) ((unF M (uN u) y)) w) 2 12 := by
  generalize hth : (thF (bU u ∨ (y.toInt < 0 ∨ (6 : Int) < y.toInt)) "java/lang/IllegalArgumentException" none) = th
  have hc : KX lyC yX2_unit wsX2_unit { frames := 7, cells := 2, slots := 12, locals := 111 } (fun ad => [.ref (ad 2 0), .int u, .int y]) M th (fun _ => some (.int (unF M (uN u) y))) (M) 2 12 := by rw [← hth]; exact c_X2_unit M u y
  have hE9 : ∀ E, th = some E → E = "java/lang/IllegalArgumentException" := fun E h => thF1 (hth.trans h)
  clear hth
  refine KH.of (by decide) rfl rfl (fun _ _ => by simp) (fun _ _ => by simp [Value.category]) ?_
  intro X D cy ad oa w hC hR hH hE
  simp only [List.map_cons, List.map_nil, List.cons_append, List.nil_append, List.length_cons, List.length_nil, List.replicate, Nat.reduceAdd, Nat.reduceSub]
  refine po_aload_n hC dL_unit_0 rfl ?_
  refine po_iconst (v := 0) hC dL_unit_1 (by decide) ?_
  refine po_aload_n hC dL_unit_2 rfl ?_
  refine po_iload_n hC dL_unit_3 rfl ?_
  refine po_iload_n hC dL_unit_4 rfl ?_
  refine po_hcall (n := 2) hC hH hc gL_unit_X2_unit rfl (by decide +kernel) ⟨rfl, rfl⟩ (by rw [hR]; exact ⟨by decide, by decide⟩) (by rw [hR]; exact ⟨by decide, by decide⟩) rfl rfl rfl rfl (Nat.le_of_ble_eq_true rfl) dL_unit_5 (fun E hE8 => ?_) (fun hn0 => ?_)
  · rcases hE9 E hE8 with rfl
    · refine ⟨[], ⟨0, 10, 13, 13⟩, [], rfl, (fun z hz => by cases hz), by decide, by decide, ⟨"java/lang/IllegalArgumentException", hlunit_0, by decide +kernel⟩, fun q => ?_⟩
      dsimp only
      refine po_astore hC dL_unit_13 (Nat.le_of_ble_eq_true rfl) ?_
      simp only [gm_s0, gm_s1]
      refine po_iconst (v := 1) hC dL_unit_15 (by decide) ?_
      refine po_mono (fun H h => ?_) (po_cast ?_ (hE _ _ _ _ (by decide) (by decide) dL_unit_16))
      · rw [hE8]; exact h
      · rw [hE8]; rfl
  · subst hn0
    simp only [gm_r0]
    refine po_i2l hC dL_unit_8 ?_
    refine po_hout hC hH dL_unit_9 ?_
    refine po_goto hC 17 dL_unit_10 (by decide) ?_
    refine po_iconst (v := 0) hC dL_unit_17 (by decide) ?_
    exact hE _ _ _ _ (by decide) (by decide) dL_unit_18
theorem hlcontainer_0 : Cond.classLink RL 13 "java/lang/IllegalArgumentException" ∈ wsL_container := by decide +kernel
set_option maxHeartbeats 4000000 in
set_option maxRecDepth 100000 in
theorem h_container (M : gm_M) (u c y : Int32) (q : Nat → Nat) (hq : ∀ n, n < 10 → M 0 2 n = nI (q n) ∧ q n ≤ 8) : KH yL_container wsL_container { frames := 8, cells := 3, slots := 18, locals := 135 } (fun ad oa => [.ref (ad 2 0), .int u, .int c, .int y, .ref oa]) M (cod1 (thF (bU u ∨ bC c ∨ (y.toInt < 0 ∨ (3 : Int) < y.toInt)) "java/lang/IllegalArgumentException" none)) (tO (thF (bU u ∨ bC c ∨ (y.toInt < 0 ∨ (3 : Int) < y.toInt)) "java/lang/IllegalArgumentException" none) (M) M) (fun w => oW (thF (bU u ∨ bC c ∨ (y.toInt < 0 ∨ (3 : Int) < y.toInt)) "java/lang/IllegalArgumentException" none) ((cnF M (2 * uN u + uN c) (q (2 * uN u + uN c)) y)) w) 3 18 := by
  generalize hth : (thF (bU u ∨ bC c ∨ (y.toInt < 0 ∨ (3 : Int) < y.toInt)) "java/lang/IllegalArgumentException" none) = th
  have hc : KX lyC yX2_container wsX2_container { frames := 7, cells := 3, slots := 18, locals := 111 } (fun ad => [.ref (ad 2 0), .int u, .int c, .int y]) M th (fun _ => some (.int (cnF M (2 * uN u + uN c) (q (2 * uN u + uN c)) y))) (M) 3 18 := by rw [← hth]; exact c_X2_container M u c y q hq
  have hE9 : ∀ E, th = some E → E = "java/lang/IllegalArgumentException" := fun E h => thF1 (hth.trans h)
  clear hth
  refine KH.of (by decide) rfl rfl (fun _ _ => by simp) (fun _ _ => by simp [Value.category]) ?_
  intro X D cy ad oa w hC hR hH hE
  simp only [List.map_cons, List.map_nil, List.cons_append, List.nil_append, List.length_cons, List.length_nil, List.replicate, Nat.reduceAdd, Nat.reduceSub]
  refine po_aload hC dL_container_0 rfl ?_
  refine po_iconst (v := 0) hC dL_container_2 (by decide) ?_
  refine po_aload_n hC dL_container_3 rfl ?_
  refine po_iload_n hC dL_container_4 rfl ?_
  refine po_iload_n hC dL_container_5 rfl ?_
  refine po_iload_n hC dL_container_6 rfl ?_
  refine po_hcall (n := 3) hC hH hc gL_container_X2_container rfl (by decide +kernel) ⟨rfl, rfl⟩ (by rw [hR]; exact ⟨by decide, by decide⟩) (by rw [hR]; exact ⟨by decide, by decide⟩) rfl rfl rfl rfl (Nat.le_of_ble_eq_true rfl) dL_container_7 (fun E hE8 => ?_) (fun hn0 => ?_)
  · rcases hE9 E hE8 with rfl
    · refine ⟨[], ⟨0, 12, 15, 13⟩, [], rfl, (fun z hz => by cases hz), by decide, by decide, ⟨"java/lang/IllegalArgumentException", hlcontainer_0, by decide +kernel⟩, fun q => ?_⟩
      dsimp only
      refine po_astore hC dL_container_15 (Nat.le_of_ble_eq_true rfl) ?_
      simp only [gm_s0, gm_s1]
      refine po_iconst (v := 1) hC dL_container_17 (by decide) ?_
      refine po_mono (fun H h => ?_) (po_cast ?_ (hE _ _ _ _ (by decide) (by decide) dL_container_18))
      · rw [hE8]; exact h
      · rw [hE8]; rfl
  · subst hn0
    simp only [gm_r0]
    refine po_i2l hC dL_container_10 ?_
    refine po_hout hC hH dL_container_11 ?_
    refine po_goto hC 19 dL_container_12 (by decide) ?_
    refine po_iconst (v := 0) hC dL_container_19 (by decide) ?_
    exact hE _ _ _ _ (by decide) (by decide) dL_container_20
theorem hlcame_0 : Cond.classLink RL 55 "java/lang/IndexOutOfBoundsException" ∈ wsL_came := by decide +kernel
theorem hlcame_1 : Cond.classLink RL 13 "java/lang/IllegalArgumentException" ∈ wsL_came := by decide +kernel
set_option maxHeartbeats 4000000 in
set_option maxRecDepth 100000 in
theorem h_came (M : gm_M) (k y : Int32) (a : Nat) (ha : M 2 11 0 = nI a) (ha1 : a ≤ 100) : KH yL_came wsL_came { frames := 7, cells := 1, slots := 6, locals := 112 } (fun ad oa => [.ref (ad 2 0), .int k, .int y, .ref oa]) M (cod2 (thF (k < 0 ∨ ¬ k < M 2 11 0) "java/lang/IndexOutOfBoundsException" (thF (y < 0 ∨ ¬ y < 4) "java/lang/IllegalArgumentException" none))) (tO (thF (k < 0 ∨ ¬ k < M 2 11 0) "java/lang/IndexOutOfBoundsException" (thF (y < 0 ∨ ¬ y < 4) "java/lang/IllegalArgumentException" none)) (M) M) (fun w => oW (thF (k < 0 ∨ ¬ k < M 2 11 0) "java/lang/IndexOutOfBoundsException" (thF (y < 0 ∨ ¬ y < 4) "java/lang/IllegalArgumentException" none)) ((M 5 (4 * uN k + uN y) 0)) w) 1 6 := by
  generalize hth : (thF (k < 0 ∨ ¬ k < M 2 11 0) "java/lang/IndexOutOfBoundsException" (thF (y < 0 ∨ ¬ y < 4) "java/lang/IllegalArgumentException" none)) = th
  have hc : KX lyC yX2_came wsX2_came { frames := 6, cells := 1, slots := 6, locals := 90 } (fun ad => [.ref (ad 2 0), .int k, .int y]) M th (fun _ => some (.int (M 5 (4 * uN k + uN y) 0))) (M) 1 6 := by rw [← hth]; exact c_X2_came M k y a ha ha1
  have hE9 : ∀ E, th = some E → E = "java/lang/IndexOutOfBoundsException" ∨ E = "java/lang/IllegalArgumentException" := fun E h => thF2 (hth.trans h)
  clear hth
  refine KH.of (by decide) rfl rfl (fun _ _ => by simp) (fun _ _ => by simp [Value.category]) ?_
  intro X D cy ad oa w hC hR hH hE
  simp only [List.map_cons, List.map_nil, List.cons_append, List.nil_append, List.length_cons, List.length_nil, List.replicate, Nat.reduceAdd, Nat.reduceSub]
  refine po_aload_n hC dL_came_0 rfl ?_
  refine po_iconst (v := 0) hC dL_came_1 (by decide) ?_
  refine po_aload_n hC dL_came_2 rfl ?_
  refine po_iload_n hC dL_came_3 rfl ?_
  refine po_iload_n hC dL_came_4 rfl ?_
  refine po_hcall (n := 2) hC hH hc gL_came_X2_came rfl (by decide +kernel) ⟨rfl, rfl⟩ (by rw [hR]; exact ⟨by decide, by decide⟩) (by rw [hR]; exact ⟨by decide, by decide⟩) rfl rfl rfl rfl (Nat.le_of_ble_eq_true rfl) dL_came_5 (fun E hE8 => ?_) (fun hn0 => ?_)
  · rcases hE9 E hE8 with rfl | rfl
    · refine ⟨[], ⟨0, 10, 13, 55⟩, [⟨0, 10, 17, 13⟩], rfl, (fun z hz => by cases hz), by decide, by decide, ⟨"java/lang/IndexOutOfBoundsException", hlcame_0, by decide +kernel⟩, fun q => ?_⟩
      dsimp only
      refine po_astore hC dL_came_13 (Nat.le_of_ble_eq_true rfl) ?_
      simp only [gm_s0, gm_s1]
      refine po_iconst (v := 1) hC dL_came_15 (by decide) ?_
      refine po_mono (fun H h => ?_) (po_cast ?_ (hE _ _ _ _ (by decide) (by decide) dL_came_16))
      · rw [hE8]; exact h
      · rw [hE8]; rfl
    · refine ⟨[⟨0, 10, 13, 55⟩], ⟨0, 10, 17, 13⟩, [], rfl, (fun z hz => by rcases List.mem_cons.mp hz with rfl | hz; exact Or.inr ⟨by decide, "java/lang/IndexOutOfBoundsException", hlcame_0, fun U hU => hU.2⟩; cases hz), by decide, by decide, ⟨"java/lang/IllegalArgumentException", hlcame_1, by decide +kernel⟩, fun q => ?_⟩
      dsimp only
      refine po_astore hC dL_came_17 (Nat.le_of_ble_eq_true rfl) ?_
      simp only [gm_s0, gm_s1]
      refine po_iconst (v := 2) hC dL_came_19 (by decide) ?_
      refine po_mono (fun H h => ?_) (po_cast ?_ (hE _ _ _ _ (by decide) (by decide) dL_came_20))
      · rw [hE8]; exact h
      · rw [hE8]; rfl
  · subst hn0
    simp only [gm_r0]
    refine po_i2l hC dL_came_8 ?_
    refine po_hout hC hH dL_came_9 ?_
    refine po_goto hC 21 dL_came_10 (by decide) ?_
    refine po_iconst (v := 0) hC dL_came_21 (by decide) ?_
    exact hE _ _ _ _ (by decide) (by decide) dL_came_22
theorem hlcount_0 : Cond.classLink RL 13 "java/lang/IllegalArgumentException" ∈ wsL_count := by decide +kernel
set_option maxHeartbeats 4000000 in
set_option maxRecDepth 100000 in
theorem h_count (M : gm_M) (y : Int32) : KH yL_count wsL_count { frames := 7, cells := 1, slots := 6, locals := 111 } (fun ad oa => [.ref (ad 2 0), .int y, .ref oa]) M (cod1 (thF (y.toInt < 0 ∨ (6 : Int) < y.toInt) "java/lang/IllegalArgumentException" none)) (tO (thF (y.toInt < 0 ∨ (6 : Int) < y.toInt) "java/lang/IllegalArgumentException" none) (M) M) (fun w => oW (thF (y.toInt < 0 ∨ (6 : Int) < y.toInt) "java/lang/IllegalArgumentException" none) ((coF M y)) w) 1 6 := by
  generalize hth : (thF (y.toInt < 0 ∨ (6 : Int) < y.toInt) "java/lang/IllegalArgumentException" none) = th
  have hc : KX lyC yX2_count wsX2_count { frames := 6, cells := 1, slots := 6, locals := 90 } (fun ad => [.ref (ad 2 0), .int y]) M th (fun _ => some (.int (coF M y))) (M) 1 6 := by rw [← hth]; exact c_X2_count M y
  have hE9 : ∀ E, th = some E → E = "java/lang/IllegalArgumentException" := fun E h => thF1 (hth.trans h)
  clear hth
  refine KH.of (by decide) rfl rfl (fun _ _ => by simp) (fun _ _ => by simp [Value.category]) ?_
  intro X D cy ad oa w hC hR hH hE
  simp only [List.map_cons, List.map_nil, List.cons_append, List.nil_append, List.length_cons, List.length_nil, List.replicate, Nat.reduceAdd, Nat.reduceSub]
  refine po_aload_n hC dL_count_0 rfl ?_
  refine po_iconst (v := 0) hC dL_count_1 (by decide) ?_
  refine po_aload_n hC dL_count_2 rfl ?_
  refine po_iload_n hC dL_count_3 rfl ?_
  refine po_hcall (n := 1) hC hH hc gL_count_X2_count rfl (by decide +kernel) ⟨rfl, rfl⟩ (by rw [hR]; exact ⟨by decide, by decide⟩) (by rw [hR]; exact ⟨by decide, by decide⟩) rfl rfl rfl rfl (Nat.le_of_ble_eq_true rfl) dL_count_4 (fun E hE8 => ?_) (fun hn0 => ?_)
  · rcases hE9 E hE8 with rfl
    · refine ⟨[], ⟨0, 9, 12, 13⟩, [], rfl, (fun z hz => by cases hz), by decide, by decide, ⟨"java/lang/IllegalArgumentException", hlcount_0, by decide +kernel⟩, fun q => ?_⟩
      dsimp only
      refine po_astore_n hC 3 dL_count_12 rfl (Nat.le_of_ble_eq_true rfl) ?_
      simp only [gm_s0, gm_s1]
      refine po_iconst (v := 1) hC dL_count_13 (by decide) ?_
      refine po_mono (fun H h => ?_) (po_cast ?_ (hE _ _ _ _ (by decide) (by decide) dL_count_14))
      · rw [hE8]; exact h
      · rw [hE8]; rfl
  · subst hn0
    simp only [gm_r0]
    refine po_i2l hC dL_count_7 ?_
    refine po_hout hC hH dL_count_8 ?_
    refine po_goto hC 15 dL_count_9 (by decide) ?_
    refine po_iconst (v := 0) hC dL_count_15 (by decide) ?_
    exact hE _ _ _ _ (by decide) (by decide) dL_count_16
