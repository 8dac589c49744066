/-! ===== the layouts: the class's kinds (0 containers, 1 units, 2 the fibre, 3 .. its rows), the reference's (0 itself, f + 1 the row of its field f) ===== -/
def srC : Nat → Option Nat := fun f => match f with
  | 0 => some 10
  | 1 => some 11
  | _ => none
def srU : Nat → Option Nat := fun f => match f with
  | 0 => some 9
  | _ => none
def srS : Nat → Option Nat := fun f => match f with
  | 0 => some 3
  | 1 => some 4
  | 2 => some 5
  | 3 => some 6
  | 4 => some 7
  | 5 => some 8
  | _ => none
def lyC : gm_L := fun k => match k with
  | 0 => (10, .inl (0, 11, srC))
  | 1 => (5, .inl (1, 15, srU))
  | 2 => (1, .inl (2, 16, srS))
  | 3 => (1, .inr (.inr (1, 5, 5, 3)))
  | 4 => (1, .inr (.inl (1, 2)))
  | 5 => (1, .inr (.inl (0, 400)))
  | 6 => (1, .inr (.inl (0, 8)))
  | 7 => (1, .inr (.inl (0, 5)))
  | 8 => (1, .inr (.inl (0, 5)))
  | 9 => (5, .inr (.inr (0, 2, 2, 2)))
  | 10 => (10, .inr (.inl (0, 8)))
  | 11 => (10, .inr (.inl (0, 8)))
  | _ => (0, .inr (.inl (0, 0)))
def srM : Nat → Option Nat := fun f => match f with
  | 1 => some 2
  | 2 => some 3
  | 3 => some 4
  | 4 => some 5
  | 5 => some 6
  | 6 => some 7
  | 8 => some 9
  | 12 => some 13
  | 13 => some 14
  | 14 => some 15
  | 15 => some 16
  | 16 => some 17
  | 17 => some 18
  | 18 => some 19
  | 19 => some 20
  | 20 => some 21
  | 21 => some 22
  | 22 => some 23
  | 23 => some 24
  | 24 => some 25
  | 25 => some 26
  | 26 => some 27
  | 27 => some 28
  | 29 => some 30
  | 30 => some 31
  | 32 => some 33
  | 33 => some 34
  | 34 => some 35
  | 39 => some 40
  | 40 => some 41
  | _ => none
def lyM : gm_L := fun k => match k with
  | 0 => (1, .inl (3, 41, srM))
  | 2 => (1, .inr (.inl (0, 5)))
  | 3 => (1, .inr (.inl (0, 5)))
  | 4 => (1, .inr (.inl (0, 5)))
  | 5 => (1, .inr (.inl (0, 5)))
  | 6 => (1, .inr (.inl (0, 5)))
  | 7 => (1, .inr (.inl (1, 5)))
  | 9 => (1, .inr (.inl (1, 2)))
  | 13 => (1, .inr (.inl (0, 5)))
  | 14 => (1, .inr (.inl (0, 5)))
  | 15 => (1, .inr (.inl (0, 5)))
  | 16 => (1, .inr (.inl (1, 5)))
  | 17 => (1, .inr (.inl (0, 5)))
  | 18 => (1, .inr (.inl (0, 5)))
  | 19 => (1, .inr (.inl (0, 5)))
  | 20 => (1, .inr (.inl (0, 10)))
  | 21 => (1, .inr (.inl (0, 10)))
  | 22 => (1, .inr (.inl (0, 10)))
  | 23 => (1, .inr (.inl (0, 10)))
  | 24 => (1, .inr (.inl (0, 10)))
  | 25 => (1, .inr (.inl (0, 10)))
  | 26 => (1, .inr (.inl (0, 10)))
  | 27 => (1, .inr (.inl (0, 10)))
  | 28 => (1, .inr (.inl (0, 80)))
  | 30 => (1, .inr (.inl (0, 100)))
  | 31 => (1, .inr (.inl (1, 100)))
  | 33 => (1, .inr (.inl (0, 100)))
  | 34 => (1, .inr (.inl (0, 100)))
  | 35 => (1, .inr (.inl (0, 100)))
  | 40 => (1, .inr (.inl (0, 5)))
  | 41 => (1, .inr (.inl (0, 5)))
  | _ => (0, .inr (.inl (0, 0)))
/-- the two links over the nest -/
def NW (U : State) : Prop := va_Nw (.methodLinkNest RX1 65 yX2_mix RX2) U ∧ va_Nw (.methodLinkNest RX1 17 yX0_init RX2) U
theorem NW.warm {s U : State} (hW : s.WarmedH U.vm) (h : NW s) : NW U := ⟨va_Nw.warmM hW h.1, va_Nw.warmM hW h.2⟩
theorem NW.same {u U : State} (hv : u.vm = U.vm) (h : NW u) : NW U := ⟨va_Nw.same rfl hv h.1, va_Nw.same rfl hv h.2⟩
def PW (Ly : gm_L) (D : va_G) (cy : Nat → ClassId) (ad : Nat → Nat → Nat) (as : List Value) (M : gm_M) (sz : Nat) : Array Value → State → Prop := va_Pc as (fun U => U.heap.size = sz ∧ gm_P D Ly cy ad M U.heap ∧ va_K D vwCl (gm_ty cy) U ∧ NW U)
def AW (Ly : gm_L) (ad : Nat → Nat → Nat) (sz : Nat) : Nat → Prop := fun q => (∃ k n : Nat, n < (Ly k).1 ∧ q = ad k n) ∨ sz ≤ q
def QW (Ly : gm_L) (D : va_G) (cy : Nat → ClassId) (ad : Nat → Nat → Nat) (v : Option Value) (M' : gm_M) (sz : Nat) : Array Value → State → Outcome → State → Prop := fun _ st oc t => (oc = .returned v ∧ gm_P D Ly cy ad M' t.heap) ∧ va_F (AW Ly ad sz) st t
/-- a contract: over a world with the ints M the method answers v, and the ints are M' then -/
def KC (Ly : gm_L) (y : MethodName) (ws : List Cond) (rm : Room) (as : (Nat → Nat → Nat) → List Value) (M : gm_M) (v : (Nat → Nat → Nat) → Option Value) (M' : gm_M) : Prop := ∀ (l : Launch) (D : va_G) (cy : Nat → ClassId) (ad : Nat → Nat → Nat) (sz : Nat), gm_I Ly ad → Met l y ws rm (PW Ly D cy ad (as ad) M sz) (QW Ly D cy ad (v ad) M' sz) 0 0 (AW Ly ad sz)
theorem PW.blind {Ly : gm_L} {D : va_G} {cy : Nat → ClassId} {ad : Nat → Nat → Nat} {as : List Value} {M : gm_M} {sz : Nat} : FrameBlind (PW Ly D cy ad as M sz) := fun a U g mk q => by
  obtain ⟨q0, q1, qP, qK, qN⟩ := q
  exact ⟨q0, q1, qP, va_K.moved (u := U) (U := U.calling g mk a) (Vm.Alike.refl U.vm) qK, NW.same (u := U) (U := U.calling g mk a) rfl qN⟩
/-- the links over the nest, at the walk's start -/
def NX (X : gm_X) : Prop := NW (gm_s X)
theorem gm_entry (vs : List Value) (n : Nat) (hn : vs.length ≤ n) (hc : ∀ v ∈ vs, v.category = 1) : gm_ls ((lg_sl vs ++ List.replicate (n - (lg_sl vs).length) Slot.unset).toArray) (vs.map some ++ List.replicate (n - vs.length) none) := by
  have e : lg_sl vs = vs.map Slot.val := by
    clear hn
    induction vs with
    | nil => rfl
    | cons v vs ih =>
      have h1 := hc v List.mem_cons_self
      have h2 := ih (fun w h => hc w (List.mem_cons_of_mem _ h))
      show (if v.category = 2 then [Slot.val v, .second] else [Slot.val v]) ++ lg_sl vs = _
      rw [h1, h2]
      rfl
  have h := lv_entry vs (n := n) (by rw [e, List.length_map]; exact hn)
  refine ⟨by rw [h.1]; simp; omega, h.2.1, fun i v hi => ?_⟩
  by_cases hl : i < vs.length
  · rw [List.getElem?_append_left (by simpa using hl), List.getElem?_map] at hi
    rw [List.getElem?_eq_getElem hl] at hi
    simp at hi
    subst hi
    refine ⟨hc _ (List.getElem_mem hl), ?_⟩
    rw [e]
    simp only [List.getElem?_toArray]
    rw [List.getElem?_append_left (by simpa using hl)]
    simp [hl]
  · rw [List.getElem?_append_right (by simp; omega)] at hi
    rw [List.getElem?_replicate] at hi
    split at hi <;> cases hi
theorem KC.of_i {Ly : gm_L} {y : MethodName} {ws ws' : List Cond} {rm : Room} {cc : ByteArray} {maxL : Nat} {own : String} {as : (Nat → Nat → Nat) → List Value} {M M' : gm_M} {r : Int32} (hy : plainName y.cls = true) (hw : ws = Cond.code y cc maxL (some .int) :: ws') (hown : y.cls = own) (hlen : ∀ ad, (as ad).length ≤ maxL) (hcat : ∀ ad, ∀ v ∈ as ad, v.category = 1) 
    (body : ∀ X : gm_X, CX Ly X cc own ws maxL → gm_R X = rm → NX X → (∀ (pc : Nat) (L : List (Option Value)), decode cc pc = .ok (.ireturn, 1) → GO Ly X 0 0 pc L [.int r] M') → GO Ly X 0 0 0 ((as (gm_ad X)).map some ++ List.replicate (maxL - (as (gm_ad X)).length) none) [] M) : KC Ly y ws rm as M (fun _ => some (.int r)) M' := by
  intro l D cy ad sz hI
  refine Met.ofW (cc := cc) (maxL := maxL) (ret := some .int) hy hw ?_
  intro p e s m args below meth c s₁ B hml hv
  obtain ⟨rfl, hsz, hP, hK, hN⟩ := hv
  have hx := B.exec
  have hb := B.bytes
  have hr := B.returns
  have hts := atoms_spec (ws := ws) B.pre
  have hown' : s.vm.findClass own = some m.cls := by rw [← hown]; exact findClass_of_methodNamed B.named
  have hlocks := B.notSynchronized
  subst hsz
  have hC : CX Ly (p, l, e, rm, s, m, (as ad).toArray, below, meth, c, (D, cy, ad), AW Ly ad s.heap.size, MQ below (QW Ly D cy ad ((fun _ => some (.int r)) ad) M' s.heap.size) (as ad).toArray s 0 0 (AW Ly ad s.heap.size)) cc own ws maxL := ⟨hx, hb, hml, hown', hts, hK, hI, fun k n h => Or.inl ⟨k, n, h, rfl⟩, fun q h => Or.inr h, hlocks⟩
  have key := body _ hC rfl hN (by
    intro pc L hd2
    have hx2 := hx
    have hb2 := hb
    intro H locs ls hP2 hS2 hl2
    exact W.iret hx2 hb2 hr (fun t ht _ => ⟨⟨rfl, by rw [ht]; exact hP2⟩, hS2.F ht⟩) hS2.2.2 hd2)
  rw [lg_entry_eq]
  exact key s.heap [] _ hP va_S.rf (gm_entry _ _ (hlen ad) (hcat ad))
theorem KC.of_z {Ly : gm_L} {y : MethodName} {ws ws' : List Cond} {rm : Room} {cc : ByteArray} {maxL : Nat} {own : String} {as : (Nat → Nat → Nat) → List Value} {M M' : gm_M} {r : Int32} (hy : plainName y.cls = true) (hw : ws = Cond.code y cc maxL (some .boolean) :: ws') (hown : y.cls = own) (hlen : ∀ ad, (as ad).length ≤ maxL) (hcat : ∀ ad, ∀ v ∈ as ad, v.category = 1) (hnr : narrow .boolean (.int r) = .int r)
    (body : ∀ X : gm_X, CX Ly X cc own ws maxL → gm_R X = rm → NX X → (∀ (pc : Nat) (L : List (Option Value)), decode cc pc = .ok (.ireturn, 1) → GO Ly X 0 0 pc L [.int r] M') → GO Ly X 0 0 0 ((as (gm_ad X)).map some ++ List.replicate (maxL - (as (gm_ad X)).length) none) [] M) : KC Ly y ws rm as M (fun _ => some (.int r)) M' := by
  intro l D cy ad sz hI
  refine Met.ofW (cc := cc) (maxL := maxL) (ret := some .boolean) hy hw ?_
  intro p e s m args below meth c s₁ B hml hv
  obtain ⟨rfl, hsz, hP, hK, hN⟩ := hv
  have hx := B.exec
  have hb := B.bytes
  have hr := B.returns
  have hts := atoms_spec (ws := ws) B.pre
  have hown' : s.vm.findClass own = some m.cls := by rw [← hown]; exact findClass_of_methodNamed B.named
  have hlocks := B.notSynchronized
  subst hsz
  have hC : CX Ly (p, l, e, rm, s, m, (as ad).toArray, below, meth, c, (D, cy, ad), AW Ly ad s.heap.size, MQ below (QW Ly D cy ad ((fun _ => some (.int r)) ad) M' s.heap.size) (as ad).toArray s 0 0 (AW Ly ad s.heap.size)) cc own ws maxL := ⟨hx, hb, hml, hown', hts, hK, hI, fun k n h => Or.inl ⟨k, n, h, rfl⟩, fun q h => Or.inr h, hlocks⟩
  have key := body _ hC rfl hN (by
    intro pc L hd2
    have hx2 := hx
    have hb2 := hb
    intro H locs ls hP2 hS2 hl2
    exact W.zret hx2 hb2 hr hnr (fun t ht _ => ⟨⟨rfl, by rw [ht]; exact hP2⟩, hS2.F ht⟩) hS2.2.2 hd2)
  rw [lg_entry_eq]
  exact key s.heap [] _ hP va_S.rf (gm_entry _ _ (hlen ad) (hcat ad))
theorem KC.of_v {Ly : gm_L} {y : MethodName} {ws ws' : List Cond} {rm : Room} {cc : ByteArray} {maxL : Nat} {own : String} {as : (Nat → Nat → Nat) → List Value} {M M' : gm_M}  (hy : plainName y.cls = true) (hw : ws = Cond.code y cc maxL (none) :: ws') (hown : y.cls = own) (hlen : ∀ ad, (as ad).length ≤ maxL) (hcat : ∀ ad, ∀ v ∈ as ad, v.category = 1) 
    (body : ∀ X : gm_X, CX Ly X cc own ws maxL → gm_R X = rm → NX X → (∀ (pc : Nat) (L : List (Option Value)), decode cc pc = .ok (.return_, 1) → GO Ly X 0 0 pc L [] M') → GO Ly X 0 0 0 ((as (gm_ad X)).map some ++ List.replicate (maxL - (as (gm_ad X)).length) none) [] M) : KC Ly y ws rm as M (fun _ => none) M' := by
  intro l D cy ad sz hI
  refine Met.ofW (cc := cc) (maxL := maxL) (ret := none) hy hw ?_
  intro p e s m args below meth c s₁ B hml hv
  obtain ⟨rfl, hsz, hP, hK, hN⟩ := hv
  have hx := B.exec
  have hb := B.bytes
  have hr := B.returns
  have hts := atoms_spec (ws := ws) B.pre
  have hown' : s.vm.findClass own = some m.cls := by rw [← hown]; exact findClass_of_methodNamed B.named
  have hlocks := B.notSynchronized
  subst hsz
  have hC : CX Ly (p, l, e, rm, s, m, (as ad).toArray, below, meth, c, (D, cy, ad), AW Ly ad s.heap.size, MQ below (QW Ly D cy ad ((fun _ => none) ad) M' s.heap.size) (as ad).toArray s 0 0 (AW Ly ad s.heap.size)) cc own ws maxL := ⟨hx, hb, hml, hown', hts, hK, hI, fun k n h => Or.inl ⟨k, n, h, rfl⟩, fun q h => Or.inr h, hlocks⟩
  have key := body _ hC rfl hN (by
    intro pc L hd2
    have hx2 := hx
    have hb2 := hb
    intro H locs ls hP2 hS2 hl2
    exact W.vret hx2 hb2 hr (fun t ht _ => ⟨⟨rfl, by rw [ht]; exact hP2⟩, hS2.F ht⟩) hS2.2.2 hd2)
  rw [lg_entry_eq]
  exact key s.heap [] _ hP va_S.rf (gm_entry _ _ (hlen ad) (hcat ad))
theorem KC.of_a {Ly : gm_L} {y : MethodName} {ws ws' : List Cond} {rm : Room} {cc : ByteArray} {maxL : Nat} {own : String} {as : (Nat → Nat → Nat) → List Value} {M M' : gm_M} {rc : String} {rv : (Nat → Nat → Nat) → Value} (hy : plainName y.cls = true) (hw : ws = Cond.code y cc maxL (some (.object rc)) :: ws') (hown : y.cls = own) (hlen : ∀ ad, (as ad).length ≤ maxL) (hcat : ∀ ad, ∀ v ∈ as ad, v.category = 1) (hrv : ∀ ad, rv ad = .null ∨ ∃ a, rv ad = .ref a)
    (body : ∀ X : gm_X, CX Ly X cc own ws maxL → gm_R X = rm → NX X → (∀ (pc : Nat) (L : List (Option Value)), decode cc pc = .ok (.areturn, 1) → GO Ly X 0 0 pc L [rv (gm_ad X)] M') → GO Ly X 0 0 0 ((as (gm_ad X)).map some ++ List.replicate (maxL - (as (gm_ad X)).length) none) [] M) : KC Ly y ws rm as M (fun ad => some (rv ad)) M' := by
  intro l D cy ad sz hI
  refine Met.ofW (cc := cc) (maxL := maxL) (ret := some (.object rc)) hy hw ?_
  intro p e s m args below meth c s₁ B hml hv
  obtain ⟨rfl, hsz, hP, hK, hN⟩ := hv
  have hx := B.exec
  have hb := B.bytes
  have hr := B.returns
  have hts := atoms_spec (ws := ws) B.pre
  have hown' : s.vm.findClass own = some m.cls := by rw [← hown]; exact findClass_of_methodNamed B.named
  have hlocks := B.notSynchronized
  subst hsz
  have hC : CX Ly (p, l, e, rm, s, m, (as ad).toArray, below, meth, c, (D, cy, ad), AW Ly ad s.heap.size, MQ below (QW Ly D cy ad ((fun ad => some (rv ad)) ad) M' s.heap.size) (as ad).toArray s 0 0 (AW Ly ad s.heap.size)) cc own ws maxL := ⟨hx, hb, hml, hown', hts, hK, hI, fun k n h => Or.inl ⟨k, n, h, rfl⟩, fun q h => Or.inr h, hlocks⟩
  have key := body _ hC rfl hN (by
    intro pc L hd2
    have hx2 := hx
    have hb2 := hb
    intro H locs ls hP2 hS2 hl2
    exact W.aret hx2 hb2 hr (Or.inl ⟨rc, rfl⟩) (hrv ad) (fun t ht _ => ⟨⟨rfl, by rw [ht]; exact hP2⟩, hS2.F ht⟩) hS2.2.2 hd2)
  rw [lg_entry_eq]
  exact key s.heap [] _ hP va_S.rf (gm_entry _ _ (hlen ad) (hcat ad))
section GC
variable {Ly : gm_L} {X : gm_X} {cc : ByteArray} {own : String} {Ts : List Cond} {nL ce sl pc : Nat} {L : List (Option Value)} {rest : List Value} {M M' : gm_M}
theorem AW.in {Ly : gm_L} {ad : Nat → Nat → Nat} {A : Nat → Prop} {H0 H : Heap} {locs : List Loc} (hAd : ∀ k n : Nat, n < (Ly k).1 → A (ad k n)) (hA : ∀ q : Nat, H0.size ≤ q → A q) (hS : va_S A H0 H locs) : ∀ q : Nat, AW Ly ad H.size q → A q := by
  intro q h
  rcases h with ⟨k, n, h1, rfl⟩ | h
  · exact hAd k n h1
  · exact hA q (Nat.le_trans hS.1 h)
theorem gm_after {p : Program} {l : Launch} {e : Env} {R : Room} {s : State} {m : MethodId} {args : Array Value} {below : List Frame} {meth : Method} {c : Code} {D : va_G} {cy : Nat → ClassId} {ad : Nat → Nat → Nat} {A : Nat → Prop} {Q : State → Prop} {v : Option Value} {a : Array Value} {H : Heap} {locs : List Loc} {ls : Array Slot} {st : List Value}
    (hAd : ∀ k n : Nat, n < (Ly k).1 → A (ad k n)) (hA : ∀ q : Nat, s.heap.size ≤ q → A q) (hS : va_S A s.heap H locs) (hl : gm_ls ls L)
    (hr : va_Run p l e R s m args below meth c H locs ce sl 0 0 (F0 m pc ls st) rest (QW Ly D cy ad v M' H.size a) (AW Ly ad H.size))
    (kk : GO Ly (p, l, e, R, s, m, args, below, meth, c, (D, cy, ad), A, Q) ce sl (pc + 3) L (v.toList ++ rest) M') : W p l e R s m args below meth c H locs ce sl Q (F0 m pc ls st) := by
  intro T hT XX
  obtain ⟨v2, st₀, t, T', L', h0, X', hL', e1, e2, ⟨⟨hv, hPB⟩, hz, hk⟩, go⟩ := hr T hT XX
  cases hv
  rw [h0] at hz hk
  have hAi := AW.in (Ly := Ly) (ad := ad) hAd hA hS
  obtain ⟨t2, a1, b1⟩ := kk T'.heap (locs ++ L') ls (by rw [e1]; exact hPB)
    ⟨Nat.le_trans hS.1 (by rw [e1]; exact hz), fun q h1 h2 => by rw [e1, hk q (Nat.lt_of_lt_of_le h1 hS.1) (fun z => h2 (hAi q z))]; exact hS.2.1 q h1 h2, fun q hq => by
      rcases List.mem_append.mp hq with h | h
      · exact hS.2.2 q h
      · exact hAi _ (hL' q h)⟩ hl T' rfl X'
  exact ⟨t2, go t2 a1, b1⟩
theorem gm_pre {s : State} {D : va_G} {cy : Nat → ClassId} {ad : Nat → Nat → Nat} {H : Heap} {as : List Value} (hP : gm_P D Ly cy ad M H) (hK : va_K D vwCl (gm_ty cy) s) (hN : NW s) : ∀ U : State, U.heap = H → s.WarmedH U.vm → PW Ly D cy ad as M H.size as.toArray U := fun U hU hW => ⟨rfl, by rw [hU], by rw [hU]; exact hP, va_K.moved hW.alike hK, NW.warm hW hN⟩
/-- a call of an instance method of ours, by its receiver -/
theorem go_callV (hC : CX Ly X cc own Ts nL) (hX : NX X) {y : MethodName} {ws ws' : List Cond} {rm : Room} {as : (Nat → Nat → Nat) → List Value} {v : (Nat → Nat → Nat) → Option Value} {bytes : ByteArray} {maxL n index k0 n0 ci N : Nat} {ret : Option FieldType} {C : String} {T : u_T} {sr : Nat → Option Nat} {As st : List Value}
    (hM : KC Ly y ws rm as M v M') (hG : GoodIn Ts (wsV own index C y ws)) (hw : ws = Cond.code y bytes maxL ret :: ws') (hd : y.cls = C ∧ y.cls ≠ "java/lang/invoke/MethodHandle" ∧ y.cls ≠ "java/lang/invoke/VarHandle" ∧ (parseMethodDescriptor y.desc).map (fun d => d.parameters.length) = some n) (hcs : rm.cells = 0 ∧ rm.slots = 0) (hR : rm.frames + 1 ≤ (gm_R X).frames ∧ 8 + (maxL + 11) + rm.locals ≤ (gm_R X).locals) (hf : ce ≤ (gm_R X).cells ∧ sl ≤ (gm_R X).slots) (hLn : L.length = nL)
    (hk : (Ly k0).2 = .inl (ci, N, sr)) (hc : vwCl[ci]? = some (C, T, N)) (hn0 : n0 < (Ly k0).1) (has : as (gm_ad X) = .ref (gm_ad X k0 n0) :: As) (hn : As.length = n) (hst : st = As.reverse ++ .ref (gm_ad X k0 n0) :: rest) (hcat : (rest.map fun v => v.category).sum ≤ 8) (hdg : decode cc pc = .ok (.invokevirtual index, 3))
    (kk : GO Ly X ce sl (pc + 3) L ((v (gm_ad X)).toList ++ rest) M') : GO Ly X ce sl pc L st M := by
  obtain ⟨p, l, e, R, s, m, args, below, meth, c, ⟨D, cy, ad⟩, A, Q⟩ := X
  obtain ⟨hx, hb, hml, hown, hts, hK, hI, hAd, hA, hlk⟩ := hC
  intro H locs ls hP hS hl
  have h1 := hP k0 n0 hn0
  rw [gm_at_o hk] at h1
  have has' : as ad = .ref (ad k0 n0) :: As := has
  have hM' := hM l D cy ad H.size hI
  rw [has'] at hM'
  exact gm_after hAd hA hS hl (va_runV (As := As) (rest := rest) ⟨hx, hb, hml, hown, hts⟩ hM' (cwV n hts hG hw hcs.1 hcs.2 hd hR) ⟨PW.blind, va_recv hK (gm_one h1) (ci := ci) (q0 := 0) hc rfl, gm_pre hP hK hX⟩ rfl hn (hl.1.trans hLn) hst (lv_room hcat) hdg hf) kk
/-- a call of a static method of the same class -/
theorem go_callS (hC : CX Ly X cc own Ts nL) (hX : NX X) {y : MethodName} {ws ws' : List Cond} {rm : Room} {as : (Nat → Nat → Nat) → List Value} {v : (Nat → Nat → Nat) → Option Value} {bytes : ByteArray} {maxL n index : Nat} {ret : Option FieldType} {As st : List Value}
    (hM : KC Ly y ws rm as M v M') (hG : GoodIn Ts (va_wsS own index y ws)) (hw : ws = Cond.code y bytes maxL ret :: ws') (hd : y.cls ≠ "java/lang/invoke/MethodHandle" ∧ y.cls ≠ "java/lang/invoke/VarHandle" ∧ (parseMethodDescriptor y.desc).map (fun d => d.parameters.length) = some n) (hcs : rm.cells = 0 ∧ rm.slots = 0) (hR : rm.frames + 1 ≤ (gm_R X).frames ∧ 8 + (maxL + 11) + rm.locals ≤ (gm_R X).locals) (hf : ce ≤ (gm_R X).cells ∧ sl ≤ (gm_R X).slots) (hLn : L.length = nL)
    (has : as (gm_ad X) = As) (hn : As.length = n) (hst : st = As.reverse ++ rest) (hcat : (rest.map fun v => v.category).sum ≤ 8) (hdg : decode cc pc = .ok (.invokestatic index, 3))
    (kk : GO Ly X ce sl (pc + 3) L ((v (gm_ad X)).toList ++ rest) M') : GO Ly X ce sl pc L st M := by
  obtain ⟨p, l, e, R, s, m, args, below, meth, c, ⟨D, cy, ad⟩, A, Q⟩ := X
  obtain ⟨hx, hb, hml, hown, hts, hK, hI, hAd, hA, hlk⟩ := hC
  intro H locs ls hP hS hl
  have has' : as ad = As := has
  have hM' := hM l D cy ad H.size hI
  rw [has'] at hM'
  exact gm_after hAd hA hS hl (va_runS (As := As) (rest := rest) ⟨hx, hb, hml, hown, hts⟩ hM' (va_cwS n hts hG hw hcs.1 hcs.2 hd hR) ⟨PW.blind, gm_pre hP hK hX⟩ rfl hn (hl.1.trans hLn) hst (lv_room hcat) hdg hf) kk
/-- the call of SharedFibre.mix over the nest -/
theorem go_callN (hC : CX Ly X cc RX1 Ts nL) (hX : NX X) {ws ws' : List Cond} {rm : Room} {as : (Nat → Nat → Nat) → List Value} {v : (Nat → Nat → Nat) → Option Value} {bytes : ByteArray} {maxL n : Nat} {ret : Option FieldType} {As st : List Value}
    (hM : KC Ly yX2_mix ws rm as M v M') (hG : GoodIn Ts ws) (hst9 : Cond.static yX2_mix ∈ Ts) (hin9 : Cond.initialized yX2_mix.cls ∈ Ts) (hw : ws = Cond.code yX2_mix bytes maxL ret :: ws') (hd : yX2_mix.cls ≠ "java/lang/invoke/MethodHandle" ∧ yX2_mix.cls ≠ "java/lang/invoke/VarHandle" ∧ (parseMethodDescriptor yX2_mix.desc).map (fun d => d.parameters.length) = some n) (hcs : rm.cells = 0 ∧ rm.slots = 0) (hR : rm.frames + 1 ≤ (gm_R X).frames ∧ 8 + (maxL + 11) + rm.locals ≤ (gm_R X).locals) (hf : ce ≤ (gm_R X).cells ∧ sl ≤ (gm_R X).slots) (hLn : L.length = nL)
    (has : as (gm_ad X) = As) (hn : As.length = n) (hst : st = As.reverse ++ rest) (hcat : (rest.map fun v => v.category).sum ≤ 8) (hdg : decode cc pc = .ok (.invokestatic 65, 3))
    (kk : GO Ly X ce sl (pc + 3) L ((v (gm_ad X)).toList ++ rest) M') : GO Ly X ce sl pc L st M := by
  obtain ⟨p, l, e, R, s, m, args, below, meth, c, ⟨D, cy, ad⟩, A, Q⟩ := X
  obtain ⟨hx, hb, hml, hown, hts, hK, hI, hAd, hA, hlk⟩ := hC
  intro H locs ls hP hS hl
  have has' : as ad = As := has
  have hM' := hM l D cy ad H.size hI
  rw [has'] at hM'
  exact gm_after hAd hA hS hl (va_runSN (As := As) (rest := rest) ⟨hx, hb, hml, hown, hts⟩ hM' ⟨va_cnB n hts hG hw hcs.1 hcs.2 hX.1 (hts _ hin9) hd hR, hts _ hst9, trivial⟩ ⟨PW.blind, gm_pre hP hK hX⟩ rfl hn (hl.1.trans hLn) hst (lv_room hcat) hdg hf) kk
/-- Math.max, min, abs -/
theorem go_max (hC : CX Ly X cc own Ts nL) {x y : Int32} {index : Nat} (h1 : Cond.methodLink own index Lib.Math.max.name ∈ Ts) (h2 : Cond.static Lib.Math.max.name ∈ Ts) (h3 : Cond.initialized "java/lang/Math" ∈ Ts) (h4 : Cond.code Lib.Math.max.name Lib.Math.max.code 2 (some .int) ∈ Ts) (hR : 1 ≤ (gm_R X).frames ∧ (rest.map fun v => v.category).sum + 13 ≤ (gm_R X).locals) (hf : ce ≤ (gm_R X).cells ∧ sl ≤ (gm_R X).slots) (hLn : L.length = nL) (hdg : decode cc pc = .ok (.invokestatic index, 3))
    (kk : GO Ly X ce sl (pc + 3) L (.int (if x < y then y else x) :: rest) M) : GO Ly X ce sl pc L (.int y :: .int x :: rest) M := by
  obtain ⟨p, l, e, R, s, m, args, below, meth, c, ⟨D, cy, ad⟩, A, Q⟩ := X
  obtain ⟨hx, hb, hml, hown, hts, hK, hI, hAd, hA, hlk⟩ := hC
  intro H locs ls hP hS hl
  exact va_mmax hx hb (by rw [hml, hl.1, hLn]) hown (hts _ h1) (hts _ h2) (hts _ h3) (hts _ h4) hR.1 hR.2 hf.1 hf.2 hdg (kk H locs ls hP hS hl)
theorem go_min (hC : CX Ly X cc own Ts nL) {x y : Int32} {index : Nat} (h1 : Cond.methodLink own index Lib.Math.min.name ∈ Ts) (h2 : Cond.static Lib.Math.min.name ∈ Ts) (h3 : Cond.initialized "java/lang/Math" ∈ Ts) (h4 : Cond.code Lib.Math.min.name Lib.Math.min.code 2 (some .int) ∈ Ts) (hR : 1 ≤ (gm_R X).frames ∧ (rest.map fun v => v.category).sum + 13 ≤ (gm_R X).locals) (hf : ce ≤ (gm_R X).cells ∧ sl ≤ (gm_R X).slots) (hLn : L.length = nL) (hdg : decode cc pc = .ok (.invokestatic index, 3))
    (kk : GO Ly X ce sl (pc + 3) L (.int (if y < x then y else x) :: rest) M) : GO Ly X ce sl pc L (.int y :: .int x :: rest) M := by
  obtain ⟨p, l, e, R, s, m, args, below, meth, c, ⟨D, cy, ad⟩, A, Q⟩ := X
  obtain ⟨hx, hb, hml, hown, hts, hK, hI, hAd, hA, hlk⟩ := hC
  intro H locs ls hP hS hl
  exact va_mmin hx hb (by rw [hml, hl.1, hLn]) hown (hts _ h1) (hts _ h2) (hts _ h3) (hts _ h4) hR.1 hR.2 hf.1 hf.2 hdg (kk H locs ls hP hS hl)
theorem go_abs (hC : CX Ly X cc own Ts nL) {x : Int32} {index : Nat} (h1 : Cond.methodLink own index Lib.Math.abs.name ∈ Ts) (h2 : Cond.static Lib.Math.abs.name ∈ Ts) (h3 : Cond.initialized "java/lang/Math" ∈ Ts) (h4 : Cond.code Lib.Math.abs.name Lib.Math.abs.code 1 (some .int) ∈ Ts) (hR : 1 ≤ (gm_R X).frames ∧ (rest.map fun v => v.category).sum + 13 ≤ (gm_R X).locals) (hf : ce ≤ (gm_R X).cells ∧ sl ≤ (gm_R X).slots) (hLn : L.length = nL) (hdg : decode cc pc = .ok (.invokestatic index, 3))
    (kk : GO Ly X ce sl (pc + 3) L (.int (if 0 ≤ x then x else 0 - x) :: rest) M) : GO Ly X ce sl pc L (.int x :: rest) M := by
  obtain ⟨p, l, e, R, s, m, args, below, meth, c, ⟨D, cy, ad⟩, A, Q⟩ := X
  obtain ⟨hx, hb, hml, hown, hts, hK, hI, hAd, hA, hlk⟩ := hC
  intro H locs ls hP hS hl
  exact va_mabs hx hb (by rw [hml, hl.1, hLn]) hown (hts _ h1) (hts _ h2) (hts _ h3) (hts _ h4) hR.1 hR.2 hf.1 hf.2 hdg (kk H locs ls hP hS hl)
end GC
/-! rows that lay a goal out: locals set, answers on the stack, the locals at an entry -/
theorem gm_s0 {a b : Option Value} {l : List (Option Value)} : (a :: l).set 0 b = b :: l := rfl
theorem gm_s1 {a b : Option Value} {l : List (Option Value)} {n : Nat} : (a :: l).set (n + 1) b = a :: l.set n b := rfl
theorem gm_fin {n : Nat} {h : n < 4} : (⟨n, h⟩ : Fin 4).val = n := rfl
theorem gm_r0 {v : Value} {r : List Value} : (some v).toList ++ r = v :: r := rfl
theorem gm_r1 {r : List Value} : (none : Option Value).toList ++ r = r := rfl
theorem gm_e0 {v : Value} {l : List Value} {r : List (Option Value)} : (v :: l).map some ++ r = some v :: (l.map some ++ r) := rfl
theorem gm_e1 {r : List (Option Value)} : ([] : List Value).map some ++ r = r := rfl
theorem gm_e2 {n : Nat} {v : Option Value} : List.replicate (n + 1) v = v :: List.replicate n v := rfl
theorem gm_in {x : Int32} {n N : Nat} (h : x = nI n) (hn : n < N) (hN : N < 2 ^ 31) : vp_in x N := h ▸ vp_in_nI hn hN
theorem gm_cl {x : Int32} {n : Nat} (h : x = nI n) (hn : n < 2 ^ 31) : x.toNatClampNeg = n := h ▸ nI_clamp hn
theorem gm_cl5 {x : Int32} {n a : Nat} (h : x = nI n) (hn : n < 2 ^ 31) : a + x.toNatClampNeg = a + n := by rw [gm_cl h hn]
theorem gm_cu {x : Int32} {n : Nat} (h : x = nI n) (hn : n < 2 ^ 31) : 5 * 0 + x.toNatClampNeg = n := by rw [gm_cl h hn]; omega
/-- a truth as an int -/
noncomputable def tF (P : Prop) : Int32 := @ite _ P (Classical.propDecidable P) 1 0
theorem tF_t {P : Prop} (h : P) : tF P = 1 := if_pos h
theorem tF_f {P : Prop} (h : ¬ P) : tF P = 0 := if_neg h
theorem tF_n (P : Prop) : narrow .boolean (.int (tF P)) = .int (tF P) := by
  by_cases h : P
  · rw [tF_t h]; decide
  · rw [tF_f h]; decide
/-- fewer known locals -/
def gm_le (L' L : List (Option Value)) : Prop := L'.length = L.length ∧ ∀ (i : Nat) (v : Value), L'[i]? = some (some v) → L[i]? = some (some v)
theorem gm_le_nil : gm_le [] [] := ⟨rfl, fun _ _ h => h⟩
theorem gm_le_c {a : Option Value} {l r : List (Option Value)} (h : gm_le l r) : gm_le (a :: l) (a :: r) := ⟨by simp [h.1], fun i v hi => by
  cases i with
  | zero => exact hi
  | succ i => exact h.2 i v hi⟩
theorem gm_le_n {b : Option Value} {l r : List (Option Value)} (h : gm_le l r) : gm_le (none :: l) (b :: r) := ⟨by simp [h.1], fun i v hi => by
  cases i with
  | zero => cases hi
  | succ i => exact h.2 i v hi⟩
theorem go_sub {Ly : gm_L} {X : gm_X} {ce sl pc : Nat} {L L' : List (Option Value)} {st : List Value} {M : gm_M} (k : GO Ly X ce sl pc L' st M) (h : gm_le L' L) : GO Ly X ce sl pc L st M := by
  obtain ⟨p, l, e, R, s, m, args, below, meth, c, ⟨D, cy, ad⟩, A, Q⟩ := X
  intro H locs ls hP hS hl
  exact k H locs ls hP hS ⟨hl.1.trans h.1.symm, hl.2.1, fun i v hi => hl.2.2 i v (h.2 i v hi)⟩
theorem gm_us {M : gm_M} {k f n : Nat} {x : Int32} : gm_up M k f n x k f n = x := if_pos ⟨rfl, rfl, rfl⟩
theorem gm_un1 {M : gm_M} {k f n k' f' n' : Nat} {x : Int32} (h : k' ≠ k) : gm_up M k f n x k' f' n' = M k' f' n' := if_neg (fun q => h q.1)
theorem gm_un2 {M : gm_M} {k f n k' f' n' : Nat} {x : Int32} (h : f' ≠ f) : gm_up M k f n x k' f' n' = M k' f' n' := if_neg (fun q => h q.2.1)
theorem gm_un3 {M : gm_M} {k f n k' f' n' : Nat} {x : Int32} (h : n' ≠ n) : gm_up M k f n x k' f' n' = M k' f' n' := if_neg (fun q => h q.2.2)
/-- step upon step: 0, 1, .. -/
def iter (f : Nat → gm_M → gm_M) : Nat → gm_M → gm_M
  | 0, M => M
  | k + 1, M => f k (iter f k M)
theorem iter_s (f : Nat → gm_M → gm_M) (k : Nat) (M : gm_M) : iter f (k + 1) M = f k (iter f k M) := rfl
theorem iter_inv {f : Nat → gm_M → gm_M} {P : gm_M → Prop} (h : ∀ k M, P M → P (f k M)) {M : gm_M} (h0 : P M) : ∀ k, P (iter f k M)
  | 0 => h0
  | k + 1 => h k _ (iter_inv h h0 k)
theorem loopN (n : Nat) (S : Nat → Prop) (hx : S n) (hs : ∀ j, j < n → S (j + 1) → S j) : S 0 := by
  have key : ∀ d j, j + d = n → S j := by
    intro d
    induction d with
    | zero => intro j hj; rw [Nat.add_zero] at hj; rw [hj]; exact hx
    | succ d ih => intro j hj; exact hs j (by omega) (ih (j + 1) (by omega))
  exact key n 0 (by omega)
/-- a number that comes out of several roads -/
theorem go_joinI {Ly : gm_L} {X : gm_X} {ce sl pc jpc : Nat} {L : List (Option Value)} {rest : List Value} {M : gm_M} (v : Int32) (hj : GO Ly X ce sl jpc L (.int v :: rest) M) (k : GO Ly X ce sl jpc L (.int v :: rest) M → GO Ly X ce sl pc L rest M) : GO Ly X ce sl pc L rest M := k hj
/-- a truth that comes out of several roads -/
theorem go_joinB {Ly : gm_L} {X : gm_X} {ce sl pc jpc : Nat} {L : List (Option Value)} {rest : List Value} {M : gm_M} (C : Prop) [Decidable C] (hj : ∀ b : Int32, (b = if C then 1 else 0) → GO Ly X ce sl jpc L (.int b :: rest) M) (k : (∀ b : Int32, (b = if C then 1 else 0) → GO Ly X ce sl jpc L (.int b :: rest) M) → GO Ly X ce sl pc L rest M) : GO Ly X ce sl pc L rest M := k hj
