/-! THE CLAIM OUT OF ONE WALK OF THE LAW'S BODY. Your part is whole_start (and what it stands on); all else here is the same for every law, but numbers. -/
def R_law : String := "SharedFibreLaw"
def lw_P (b : Addr) (xs : List Int32) (args : Array Value) (s : State) : Prop := args = #[.ref b] ∧ s.IntsAt b xs ∧ xs.length ≤ 3584 ∧ (Jvm.Cond.and given_1 narrow_1).before args s = true
def lw_Q (_ : Array Value) (s : State) (o : Outcome) (t : State) : Prop := o = .returned (some (.int 1)) ∧ Framed s o t [] 603942 7284278
def lw_Z (below : List Frame) (a : Array Value) (s : State) : State → Prop := fun t => ∃ o, t.status = .running ∧ Ended t below o ∧ lw_Q a s o t
/-- the law's own end, with 1 on the stack, nothing written that was there before, its room as the claim has it -/
theorem lw_ret {p : Program} {l : Launch} {e : Env} {s : State} {m : MethodId} {below : List Frame} {meth : Method} {c : Code} {b : Nat} (hx : p.tables.exec = Jvm.exec) (hb : c.code = code) (hr : meth.sig.returnType = ret) (hlocks : meth.locks = false) {pc : Nat} {H : Heap} {ls : Array Slot} (hdg : decode code pc = .ok (.ireturn, 1)) : W p l e room_1 s m #[Value.ref b] below meth c H [] 603942 7284278 (lw_Z below #[Value.ref b] s) (F0 m pc ls [.int 1]) := by
  intro T hT X
  obtain ⟨fs, hret, hrun, hended, hW, hframe⟩ := X.leave (v := some (.int 1)) (hlocks := hlocks) (fun h => by rw [hr] at h; cases h)
  have hmeth' : T.vm.method? m = some meth := X.method'
  refine ⟨T.setFrames fs, ?_, .returned (some (.int 1)), hrun, hended, rfl, ⟨_, rfl⟩, hW, hframe⟩
  jvm_step X.here [X.here.top, hx, hb, hdg, hmeth', hr, ret, narrow_b1]
  (try refine ⟨rfl, ?_⟩); (try refine ⟨rfl, ?_⟩)
  first | (intro acts; rw [hret _ acts rfl rfl rfl]) | rw [hret _ _ rfl rfl rfl]
  exact Steps.refl _
/-- what holds at the law's entry: the machine, the code, the tables' words (any of lw_tbl by 'hts w (by decide +kernel)'), the script of L ints xs at the cell b, what the Statement gives of the start (any of its parts by flat_of_before) -/
def lw_At (p : Program) (s : State) (m : MethodId) (meth : Method) (c : Code) (b L : Nat) (xs : Nat → Int32) : Prop :=
  p.tables.exec = Jvm.exec ∧ c.code = code ∧ meth.sig.returnType = ret ∧ c.maxLocals = 7 ∧ s.vm.findClass R_law = some m.cls ∧ (∀ w ∈ lw_tbl, w.before #[Value.ref b] s = true) ∧ va_X b L xs s s.heap ∧ b < s.heap.size ∧ meth.locks = false ∧ (Jvm.Cond.and given_1 narrow_1).before #[Value.ref b] s = true
/-! ===== what holds at the entry ===== -/
theorem en_str {args : Array Value} {s : State} {k : Nat} {tx : String} (h1 : (Cond.stringRef RX2 k tx).before args s = true) (h2 : (Cond.exactly (.string RX2 k) "java/lang/String").before args s = true) : ∃ sa, vk_R RX2 k tx sa s := by
  obtain ⟨a, c, cA, kA, q1, -⟩ := Cond.exactly_spec (args := args) (first := s) (o := none) (s := s) (idx := []) (t := .string RX2 k) (cls := "java/lang/String") h2
  exact ⟨a, vk_R.of h1 q1⟩
theorem en_arr {args : Array Value} {s : State} {ty : FieldType} (h : (Cond.arrayClass ty).before args s = true) : ∃ cA : ClassId, ArrOfT s cA ty ∧ s.vm.findClass ("[" ++ ty.toString) = some cA := by
  obtain ⟨cA, kA, comp, h1, h2, h3⟩ := Cond.arrayClass_spec h
  exact ⟨cA, fun n z => ⟨fun k h => (by cases h), kA, h2, comp, h3⟩, h1⟩
theorem en_obj {args : Array Value} {s : State} {C : String} (h : (Cond.arrayOver (.object C)).before args s = true) : ∃ cA : ClassId, ArrOfT s cA (.object C) ∧ va_RA s cA (.object C) := by
  obtain ⟨comp, cA, kA, h1, -, h2, h3, h4⟩ := Cond.arrayOver_spec h
  exact ⟨cA, fun n z => ⟨fun k h => (by cases h), kA, h2, comp, h3⟩, kA, comp, h2, h3, h1, h4⟩
def enW : List Cond := [.stringRef RX2 39 "serial", .stringRef RX2 47 "way", .stringRef RX2 55 "no unit is away", .stringRef RX2 77 "fixed, assured or most", .stringRef RX2 79 "weight", .stringRef RX2 92 "more than can be contracted", .stringRef RX2 99 "slots", .stringRef RX2 104 "blocks", .stringRef RX2 112 "no room for a datagram", .stringRef RX2 118 "key", .stringRef RX2 124 "a key waits", .stringRef RX2 138 "feeder", .stringRef RX2 200 "what", .stringRef RX2 217 "k", .stringRef RX2 232 "which", .stringRef RX2 234 "unit", .stringRef RX2 236 "unit is away", .stringRef RX2 238 "container"]
theorem enW_in : ∀ w ∈ enW, w ∈ lw_tbl := by decide +kernel
def enX : List Cond := [.exactly (.string RX2 39) "java/lang/String", .exactly (.string RX2 47) "java/lang/String", .exactly (.string RX2 55) "java/lang/String", .exactly (.string RX2 77) "java/lang/String", .exactly (.string RX2 79) "java/lang/String", .exactly (.string RX2 92) "java/lang/String", .exactly (.string RX2 99) "java/lang/String", .exactly (.string RX2 104) "java/lang/String", .exactly (.string RX2 112) "java/lang/String", .exactly (.string RX2 118) "java/lang/String", .exactly (.string RX2 124) "java/lang/String", .exactly (.string RX2 138) "java/lang/String", .exactly (.string RX2 200) "java/lang/String", .exactly (.string RX2 217) "java/lang/String", .exactly (.string RX2 232) "java/lang/String", .exactly (.string RX2 234) "java/lang/String", .exactly (.string RX2 236) "java/lang/String", .exactly (.string RX2 238) "java/lang/String", .isRef (.static Bundle.tN "UNASSIGNED_STACK" Bundle.steD), .isRef (.static Bundle.tN "SUPPRESSED_SENTINEL" Bundle.listD), .not (.castable "java/lang/IllegalStateException" "java/lang/IllegalArgumentException"), .not (.castable "java/lang/IllegalArgumentException" "java/lang/IndexOutOfBoundsException")]
theorem enX_in : ∀ w ∈ enX, w ∈ flatC (Jvm.Cond.and given_1 narrow_1) := by decide +kernel
theorem enO_in : ∀ w ∈ xOdd, w ∈ lw_tbl := by decide +kernel
theorem enO_ot : ∀ w ∈ xOdd, w.onTables = true := by decide +kernel
theorem en_SB {args : Array Value} {s : State} (hts : ∀ w ∈ lw_tbl, w.before args s = true) (hn : ∀ w ∈ enX, w.before args s = true) : SBH (fun q => s.heap.size ≤ q) s s.heap := by
  have hA : ∀ a : Nat, a < s.heap.size → ¬ (fun q : Nat => s.heap.size ≤ q) a := fun a h q => by dsimp only at q; omega
  refine ⟨?_, vx_Zqof (hts _ (by decide +kernel)) (hts _ (by decide +kernel)) (hn _ (by decide +kernel)) hA, vx_Zqof (hts _ (by decide +kernel)) (hts _ (by decide +kernel)) (hn _ (by decide +kernel)) hA, fun w hw => va_Nw.of (enO_ot w hw) (hts w (enO_in w hw))⟩
  intro q hq
  unfold sbs at hq
  simp only [List.mem_cons, List.not_mem_nil, or_false] at hq
  rcases hq with rfl | rfl | rfl | rfl | rfl | rfl | rfl | rfl | rfl | rfl | rfl | rfl | rfl | rfl | rfl | rfl | rfl | rfl
  · exact en_str (hts _ (enW_in _ (List.mem_of_getElem? (i := 0) rfl))) (hn _ (List.mem_of_getElem? (i := 0) rfl))
  · exact en_str (hts _ (enW_in _ (List.mem_of_getElem? (i := 1) rfl))) (hn _ (List.mem_of_getElem? (i := 1) rfl))
  · exact en_str (hts _ (enW_in _ (List.mem_of_getElem? (i := 2) rfl))) (hn _ (List.mem_of_getElem? (i := 2) rfl))
  · exact en_str (hts _ (enW_in _ (List.mem_of_getElem? (i := 3) rfl))) (hn _ (List.mem_of_getElem? (i := 3) rfl))
  · exact en_str (hts _ (enW_in _ (List.mem_of_getElem? (i := 4) rfl))) (hn _ (List.mem_of_getElem? (i := 4) rfl))
  · exact en_str (hts _ (enW_in _ (List.mem_of_getElem? (i := 5) rfl))) (hn _ (List.mem_of_getElem? (i := 5) rfl))
  · exact en_str (hts _ (enW_in _ (List.mem_of_getElem? (i := 6) rfl))) (hn _ (List.mem_of_getElem? (i := 6) rfl))
  · exact en_str (hts _ (enW_in _ (List.mem_of_getElem? (i := 7) rfl))) (hn _ (List.mem_of_getElem? (i := 7) rfl))
  · exact en_str (hts _ (enW_in _ (List.mem_of_getElem? (i := 8) rfl))) (hn _ (List.mem_of_getElem? (i := 8) rfl))
  · exact en_str (hts _ (enW_in _ (List.mem_of_getElem? (i := 9) rfl))) (hn _ (List.mem_of_getElem? (i := 9) rfl))
  · exact en_str (hts _ (enW_in _ (List.mem_of_getElem? (i := 10) rfl))) (hn _ (List.mem_of_getElem? (i := 10) rfl))
  · exact en_str (hts _ (enW_in _ (List.mem_of_getElem? (i := 11) rfl))) (hn _ (List.mem_of_getElem? (i := 11) rfl))
  · exact en_str (hts _ (enW_in _ (List.mem_of_getElem? (i := 12) rfl))) (hn _ (List.mem_of_getElem? (i := 12) rfl))
  · exact en_str (hts _ (enW_in _ (List.mem_of_getElem? (i := 13) rfl))) (hn _ (List.mem_of_getElem? (i := 13) rfl))
  · exact en_str (hts _ (enW_in _ (List.mem_of_getElem? (i := 14) rfl))) (hn _ (List.mem_of_getElem? (i := 14) rfl))
  · exact en_str (hts _ (enW_in _ (List.mem_of_getElem? (i := 15) rfl))) (hn _ (List.mem_of_getElem? (i := 15) rfl))
  · exact en_str (hts _ (enW_in _ (List.mem_of_getElem? (i := 16) rfl))) (hn _ (List.mem_of_getElem? (i := 16) rfl))
  · exact en_str (hts _ (enW_in _ (List.mem_of_getElem? (i := 17) rfl))) (hn _ (List.mem_of_getElem? (i := 17) rfl))
theorem en_NC {args : Array Value} {s : State} (hn : ∀ w ∈ enX, w.before args s = true) : NCs s := ⟨va_Nc.of (hn _ (by decide +kernel)), va_Nc.of (hn _ (by decide +kernel))⟩
theorem en_NW {args : Array Value} {s : State} (hts : ∀ w ∈ lw_tbl, w.before args s = true) : NW s := ⟨va_Nw.of rfl (hts _ (by decide +kernel)), va_Nw.of rfl (hts _ (by decide +kernel))⟩
theorem en_K {args : Array Value} {s : State} (hts : ∀ w ∈ lw_tbl, w.before args s = true) : ∃ (D : va_G) (cy : Nat → ClassId), va_K D vwCl (tyL cy) s := by
  obtain ⟨c0, i0, k0⟩ := u_known (C := RX0) (T := TX0) (N := 11) (n := 11) hts inX0 (hts _ (by decide +kernel))
  obtain ⟨c1, i1, k1⟩ := u_known (C := RX1) (T := TX1) (N := 15) (n := 15) hts inX1 (hts _ (by decide +kernel))
  obtain ⟨c2, i2, k2⟩ := u_known (C := RX2) (T := TX2) (N := 16) (n := 16) hts inX2 (hts _ (by decide +kernel))
  obtain ⟨c3, i3, k3⟩ := u_known (C := RX3) (T := TX3) (N := 41) (n := 41) hts inX3 (hts _ (by decide +kernel))
  obtain ⟨a0, p0⟩ := en_arr (ty := .int) (hts _ (by decide +kernel))
  obtain ⟨a1, p1⟩ := en_arr (ty := .boolean) (hts _ (by decide +kernel))
  obtain ⟨a2, p2⟩ := en_obj (C := RX0) (hts _ (by decide +kernel))
  obtain ⟨a3, p3⟩ := en_obj (C := RX1) (hts _ (by decide +kernel))
  obtain ⟨a4, p4⟩ := en_arr (ty := .long) (hts _ (by decide +kernel))
  refine ⟨(fun k => if k = 0 then c0 else if k = 1 then c1 else if k = 2 then c2 else c3, fun k => if k = 0 then i0 else if k = 1 then i1 else if k = 2 then i2 else i3), fun k => if k = 0 then a0 else if k = 1 then a1 else if k = 2 then a2 else if k = 3 then a3 else a4, ?_, ?_⟩
  · intro k q hq
    match k, hq with
    | 0, hq => cases hq; exact k0
    | 1, hq => cases hq; exact k1
    | 2, hq => cases hq; exact k2
    | 3, hq => cases hq; exact k3
    | k + 4, hq => simp [vwCl] at hq
  · intro k q hq
    match k, hq with
    | 0, hq => cases hq; exact p0
    | 1, hq => cases hq; exact p1
    | 2, hq => cases hq; exact p2
    | 3, hq => cases hq; exact p3
    | 4, hq => cases hq; exact p4
    | k + 5, hq => simp [tyL, gm_ty] at hq
set_option maxHeartbeats 4000000 in
/-- from the entry, for every script of at most 3584 ints, the law comes to its end with true -/
theorem whole_start {p : Program} {e : Env} {s : State} {m : MethodId} {below : List Frame} {meth : Method} {c : Code} (l : Launch) (hst : l.stackTraces = false) {b L : Nat} {xs : Nat → Int32} (hL : L ≤ 3584) (C0 : lw_At p s m meth c b L xs) : W p l e room_1 s m #[Value.ref b] below meth c s.heap [] 0 0 (lw_Z below #[Value.ref b] s) (entryFrame m ([Value.ref b] : List Value).toArray 7) := by
  obtain ⟨hx, hb, hr, hml, hown, hts, hX, hbl, hlocks, hgv⟩ := C0
  have hfl := flat_of_before _ hgv
  have hn : ∀ w ∈ enX, w.before #[Value.ref b] s = true := fun w hw => hfl w (enX_in w hw)
  obtain ⟨D, cy, hK⟩ := en_K hts
  have key := lw_start (X := (p, l, e, room_1, s, m, #[Value.ref b], below, meth, c, (fun q => s.heap.size ≤ q), lw_Z below #[Value.ref b] s)) (D := D) (cy := cy) (x := s.heap.size) (b := b) (Ln := L) (xs := xs) ⟨hx, hb, hml, hown, fun w hw => hts w (wsL_law_in w hw), fun q h => h, hlocks⟩ ⟨hst, hK, en_NW hts, en_SB hts hn, en_NC hn, hX, hbl, Nat.not_le.mpr hbl, fun q h => h, rfl⟩ (va_AO.of (hts _ (by decide +kernel))) (va_AO.of (hts _ (by decide +kernel))) hL (by
    intro P ce sl pc L1 h1 h2 hd
    refine po_widen h1 h2 ?_
    intro H locs ls hP hS hl
    exact va_forget hS.2.2 (lw_ret hx hb hr hlocks hd))
  rw [lg_entry_eq]
  exact key s.heap [] _ ⟨rfl, fun i h => absurd h (Nat.not_lt_zero _)⟩ va_S.rf (gm_entry [Value.ref b] 7 (by simp) (by simp [Value.category]))
set_option maxHeartbeats 4000000 in
theorem lw_walk (l : Launch) (hst : l.stackTraces = false) (b : Addr) (xs : List Int32) : MetFree l x (headSpec (Jvm.Cond.code x code maxLocals ret :: tables_1) room_1) (lw_P b xs) (fun _ _ _ _ _ => True) lw_Q := by
  refine MetFree.of_bodyS (code := code) (maxLocals := maxLocals) (ret := ret) (by decide) ?_ ?_
  · intro args s m h hn
    obtain ⟨meth, c, h1, h2, h3, h4, h5, h6, -, -⟩ := Cond.code_spec hn (atoms_spec (ws := Jvm.Cond.code x code maxLocals ret :: tables_1) h _ List.mem_cons_self)
    exact ⟨meth, c, h1, h2, h3, h4, h5, h6⟩
  · intro p e s m args below meth c s₁ B hml0 hP _
    obtain ⟨rfl, hx, hbd, hgv⟩ := hP
    obtain ⟨scr, harrAt, hlist, hof, hsmall⟩ := hx
    obtain ⟨hcb, hkn, -, -⟩ := State.arrayAt?_spec harrAt
    have hown : s.vm.findClass R_law = some m.cls := findClass_of_methodNamed B.named
    have hts0 : ∀ c ∈ (Jvm.Cond.code x code maxLocals ret :: tables_1), c.before #[Value.ref b] s = true := atoms_spec (ws := Jvm.Cond.code x code maxLocals ret :: tables_1) B.pre
    have hts : ∀ w ∈ lw_tbl, w.before #[Value.ref b] s = true := k2_hts_sels lw_privs (fun w hw => hts0 w (List.mem_cons_of_mem _ hw)) lw_privs_ok
    have hml : c.maxLocals = 7 := B.maxLocals_eq (hts0 _ List.mem_cons_self)
    have X₀ : Stand p l e room_1 s m #[Value.ref b] below meth c s₁ [] 0 0 := Stand.of_body B
    have hh0 : s₁.heap = s.heap := by rw [B.state]; rfl
    have hsz : scr.slots.size = xs.length := by rw [← Array.length_toList, hlist, List.length_map]
    have hval : ∀ j : Nat, j < xs.length → scr.slots[j]? = some (.int (xs.getD j 0)) := fun j hj => by
      rw [← Array.getElem?_toList, hlist]
      simp [hj]
    have hbl : b < s.heap.size := (Array.getElem?_eq_some_iff.mp hcb).1
    have hX : va_X b xs.length (fun j => xs.getD j 0) s s.heap := ⟨scr, hcb, hof, hkn, hsz, hval⟩
    have K : W p l e room_1 s m #[Value.ref b] below meth c s₁.heap [] 0 0 (lw_Z below #[Value.ref b] s) (entryFrame m ([Value.ref b] : List Value).toArray 7) := by
      rw [hh0]
      exact whole_start l hst hbd ⟨B.exec, B.bytes, B.returns, hml, hown, hts, hX, hbl, B.notSynchronized, hgv⟩
    obtain ⟨t, a1, o, b1, b2, b3⟩ := K s₁ rfl X₀
    exact ⟨t, o, a1, b1, b2, b3⟩
theorem lw_pre_spec {args : Array Value} {s : State} (h : (Jvm.Cond.and given_1 narrow_1).before args s = true) (hr : rest_1_c.before args s = true) : ∃ (b : Addr) (xs : List Int32), lw_P b xs args s := by
  have hs := flat_of_before _ h
  have hq := flat_of_before _ hr
  have hc : (Cond.count 1).before args s = true := hs _ (by decide +kernel)
  have harr : (Cond.arrayOf (.arg 0) .int).before args s = true := hs _ (by decide +kernel)
  have hle : (Cond.le (.length (.arg 0)) (.int 3584)).before args s = true := hs _ (by decide +kernel)
  have hlen : (Cond.isInt (.length (.arg 0))).before args s = true := hq _ (by decide +kernel)
  have hall : (Cond.all (.arg 0) (.isInt (.elem (.arg 0) (.index 0)))).before args s = true := hq _ (by decide +kernel)
  obtain ⟨b, xs, hb, hx⟩ := State.ints_of_pre rfl harr hlen hall
  have hsm : xs.length < 2 ^ 31 := hx.choose_spec.2.2.2
  have hev : (Term.length (.arg 0)).eval args s none [] s = some (.int xs.length.toInt32) := hx.length_eval hb
  have hv := Cond.le_ints hev (show (Term.int 3584).eval args s none [] s = some (.int 3584) from rfl)
  have hd : xs.length.toInt32 ≤ 3584 := by
    simpa [Cond.before, Cond.holds, hv] using hle
  have hN : xs.length ≤ 3584 := (Int32.ofNat_le_ofNat hsm (by decide)).mp (show Int32.ofNat xs.length ≤ Int32.ofNat 3584 from hd)
  exact ⟨b, xs, Cond.one_arg hc (show args[0]? = some (.ref b) from hb), hx, hN, h⟩
theorem lw_comes (l : Launch) (hst : l.stackTraces = false) : Comes l x (Jvm.Cond.code x code maxLocals ret :: tables_1) room_1 (fun tb e args s => Calls_1 tb e args s ∧ rest_1 tb e args s ∧ Pre_1 tb e args s)
    (fun _ _ args s o t => lw_Q args s o t) := by
  intro p e ha hc hk s m args below hf hfit hheap happ hpre
  obtain ⟨b, xs, hP⟩ := lw_pre_spec hpre.2.2 hpre.2.1
  obtain ⟨k, o, h1, h2, h3, hQ⟩ := lw_walk l hst b xs p e ha hc hk s m args below hf ((Spec.applies_iff_loose hf).mp happ).1 hP trivial
  exact ⟨k, o, h1, h2, h3, hQ⟩
theorem lw_frame {s t : State} {o : Outcome} {args : Array Value} (h : Framed s o t [] 603942 7284278) :
    Framed s o t (fieldLocs frame_1_writes args s ++ arrayLocs frame_1_arrays args s ++ staticLocs frame_1_statics s) 603942 7284278 := h
theorem lw_limb (L : Cond) (hL : ∀ (args : Array Value) (s t : State), L.after args s (.returned (some (.int 1))) t = true) :
    ArmFor flags0 classFile x code maxLocals ret World_1 tables_1 room_1 Calls_1 rest_1 Pre_1
      (fun tb e a s o t => postC L tb e a s o t ∧ Framed s o t (fieldLocs frame_1_writes a s ++ arrayLocs frame_1_arrays a s ++ staticLocs frame_1_statics s) 603942 7284278) := by
  intro l hfl _ _ p e ha hc hk s m args below hf hfit hheap happ hpre
  obtain ⟨k, o, h1, h2, h3, rfl, hF⟩ := lw_comes l (by unfold Launch.stackTraces; rw [hfl]; decide +kernel) p e ha hc hk s m args below hf hfit hheap happ hpre
  exact ⟨k, _, h1, h2, h3, hL args s _, lw_frame hF⟩
theorem i_vc : Claimed_1_1 ∧ Claimed_1_2 := ⟨lw_limb limb_1_1 (fun args s t => by simp [limb_1_1, Cond.after, Cond.holds, Cond.value]), lw_limb limb_1_2 (fun args s t => Cond.after_iff.mpr (by
  first | (rw [show limb_1_2 = Cond.eq .result (.int 1) from rfl, Cond.eq_ints (x := 1) (y := 1) rfl rfl]; simp; done) | (simp [limb_1_2, Cond.value, Term.eval]; done)))⟩
