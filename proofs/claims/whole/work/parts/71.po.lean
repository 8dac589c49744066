/-! ===== walks over any heap predicate ===== -/
abbrev po_X : Type := Program × Launch × Env × Room × State × MethodId × Array Value × List Frame × Method × Code × (Nat → Prop) × (State → Prop)
def po_l (X : po_X) : Launch := X.2.1
def po_R (X : po_X) : Room := X.2.2.2.1
def po_s (X : po_X) : State := X.2.2.2.2.1
def po_me (X : po_X) : Method := X.2.2.2.2.2.2.2.2.1
def po_A (X : po_X) : Nat → Prop := X.2.2.2.2.2.2.2.2.2.2.1
def PO (X : po_X) (P : Heap → Prop) (cells slots pc : Nat) (L : List (Option Value)) (st : List Value) : Prop := match X with
  | (p, l, e, R, s, m, args, below, meth, c, A, Q) => ∀ (H : Heap) (locs : List Loc) (ls : Array Slot), P H → va_S A s.heap H locs → gm_ls ls L → W p l e R s m args below meth c H locs cells slots Q (F0 m pc ls st)
def CP (X : po_X) (cc : ByteArray) (own : String) (Ts : List Cond) (nL : Nat) : Prop := match X with
  | (p, _, _, _, s, m, args, _, meth, c, A, _) => p.tables.exec = Jvm.exec ∧ c.code = cc ∧ c.maxLocals = nL ∧ s.vm.findClass own = some m.cls ∧ (∀ w ∈ Ts, w.before args s = true) ∧ (∀ q : Nat, s.heap.size ≤ q → A q) ∧ meth.locks = false
section PR
variable {X : po_X} {P : Heap → Prop} {cc : ByteArray} {own : String} {Ts : List Cond} {nL ce sl pc : Nat} {L : List (Option Value)} {rest : List Value}
theorem po_iconst (hC : CP X cc own Ts nL) {n : Int} {v : Int32} (hdg : decode cc pc = .ok (.iconst n, 1)) (hv : Int32.ofInt n = v) (k : PO X P ce sl (pc + 1) L (.int v :: rest)) : PO X P ce sl pc L (rest) := by
  obtain ⟨p, l, e, R, s, m, args, below, meth, c, A, Q⟩ := X
  obtain ⟨hx, hb, hml, hown, hts, hA, hlk⟩ := hC
  intro H locs ls hP hS hl
  exact lv_iconst hx hb hdg hv (k H locs ls hP hS hl)
theorem po_bipush (hC : CP X cc own Ts nL) {n : Int} {v : Int32} (hdg : decode cc pc = .ok (.bipush n, 2)) (hv : (Int8.ofInt n).toInt32 = v) (k : PO X P ce sl (pc + 2) L (.int v :: rest)) : PO X P ce sl pc L (rest) := by
  obtain ⟨p, l, e, R, s, m, args, below, meth, c, A, Q⟩ := X
  obtain ⟨hx, hb, hml, hown, hts, hA, hlk⟩ := hC
  intro H locs ls hP hS hl
  exact lv_bipush hx hb hdg hv (k H locs ls hP hS hl)
theorem po_sipush (hC : CP X cc own Ts nL) {n : Int} {v : Int32} (hdg : decode cc pc = .ok (.sipush n, 3)) (hv : (Int16.ofInt n).toInt32 = v) (k : PO X P ce sl (pc + 3) L (.int v :: rest)) : PO X P ce sl pc L (rest) := by
  obtain ⟨p, l, e, R, s, m, args, below, meth, c, A, Q⟩ := X
  obtain ⟨hx, hb, hml, hown, hts, hA, hlk⟩ := hC
  intro H locs ls hP hS hl
  exact lv_sipush hx hb hdg hv (k H locs ls hP hS hl)
theorem po_iadd (hC : CP X cc own Ts nL) {x y : Int32} (hdg : decode cc pc = .ok (.iadd, 1))  (k : PO X P ce sl (pc + 1) L (.int (x + y) :: rest)) : PO X P ce sl pc L (.int y :: .int x :: rest) := by
  obtain ⟨p, l, e, R, s, m, args, below, meth, c, A, Q⟩ := X
  obtain ⟨hx, hb, hml, hown, hts, hA, hlk⟩ := hC
  intro H locs ls hP hS hl
  exact lv_iadd hx hb hdg  (k H locs ls hP hS hl)
theorem po_isub (hC : CP X cc own Ts nL) {x y : Int32} (hdg : decode cc pc = .ok (.isub, 1))  (k : PO X P ce sl (pc + 1) L (.int (x - y) :: rest)) : PO X P ce sl pc L (.int y :: .int x :: rest) := by
  obtain ⟨p, l, e, R, s, m, args, below, meth, c, A, Q⟩ := X
  obtain ⟨hx, hb, hml, hown, hts, hA, hlk⟩ := hC
  intro H locs ls hP hS hl
  exact lv_isub hx hb hdg  (k H locs ls hP hS hl)
theorem po_iand (hC : CP X cc own Ts nL) {x y : Int32} (hdg : decode cc pc = .ok (.iand, 1))  (k : PO X P ce sl (pc + 1) L (.int (x &&& y) :: rest)) : PO X P ce sl pc L (.int y :: .int x :: rest) := by
  obtain ⟨p, l, e, R, s, m, args, below, meth, c, A, Q⟩ := X
  obtain ⟨hx, hb, hml, hown, hts, hA, hlk⟩ := hC
  intro H locs ls hP hS hl
  exact lv_iand hx hb hdg  (k H locs ls hP hS hl)
theorem po_i2l (hC : CP X cc own Ts nL) {x : Int32} (hdg : decode cc pc = .ok (.i2l, 1))  (k : PO X P ce sl (pc + 1) L (.long x.toInt64 :: rest)) : PO X P ce sl pc L (.int x :: rest) := by
  obtain ⟨p, l, e, R, s, m, args, below, meth, c, A, Q⟩ := X
  obtain ⟨hx, hb, hml, hown, hts, hA, hlk⟩ := hC
  intro H locs ls hP hS hl
  exact lv_i2l hx hb hdg rfl (k H locs ls hP hS hl)
theorem po_lcmp (hC : CP X cc own Ts nL) {x y : Int64} (hdg : decode cc pc = .ok (.lcmp, 1))  (k : PO X P ce sl (pc + 1) L (.int (lg_cmp x y) :: rest)) : PO X P ce sl pc L (.long y :: .long x :: rest) := by
  obtain ⟨p, l, e, R, s, m, args, below, meth, c, A, Q⟩ := X
  obtain ⟨hx, hb, hml, hown, hts, hA, hlk⟩ := hC
  intro H locs ls hP hS hl
  exact W.lcmp hx hb hdg  (k H locs ls hP hS hl)
theorem po_dup (hC : CP X cc own Ts nL) {v : Value} (hdg : decode cc pc = .ok (.dup, 1)) (hv : v.category = 1) (k : PO X P ce sl (pc + 1) L (v :: v :: rest)) : PO X P ce sl pc L (v :: rest) := by
  obtain ⟨p, l, e, R, s, m, args, below, meth, c, A, Q⟩ := X
  obtain ⟨hx, hb, hml, hown, hts, hA, hlk⟩ := hC
  intro H locs ls hP hS hl
  exact lv_dup hx hb hdg hv (k H locs ls hP hS hl)
theorem po_iload_n (hC : CP X cc own Ts nL) {j : Fin 4} {x : Int32} (hdg : decode cc pc = .ok (.iload_n j, 1)) (hL : L[j.val]? = some (some (.int x))) (k : PO X P ce sl (pc + 1) L (.int x :: rest)) : PO X P ce sl pc L rest := by
  obtain ⟨p, l, e, R, s, m, args, below, meth, c, A, Q⟩ := X
  obtain ⟨hx, hb, hml, hown, hts, hA, hlk⟩ := hC
  intro H locs ls hP hS hl
  exact lv_iload_n hx hb hdg rfl (hl.2.2 _ _ hL).2 (k H locs ls hP hS hl)
theorem po_iload (hC : CP X cc own Ts nL) {j : Nat} {x : Int32} (hdg : decode cc pc = .ok (.iload j, 2)) (hL : L[j]? = some (some (.int x))) (k : PO X P ce sl (pc + 2) L (.int x :: rest)) : PO X P ce sl pc L rest := by
  obtain ⟨p, l, e, R, s, m, args, below, meth, c, A, Q⟩ := X
  obtain ⟨hx, hb, hml, hown, hts, hA, hlk⟩ := hC
  intro H locs ls hP hS hl
  exact lv_iload hx hb hdg (hl.2.2 _ _ hL).2 (k H locs ls hP hS hl)
theorem po_istore_n (hC : CP X cc own Ts nL) {j : Fin 4} {x : Int32} (i : Nat) (hdg : decode cc pc = .ok (.istore_n j, 1)) (hi : j.val = i) (hj : i < L.length) (k : PO X P ce sl (pc + 1) (L.set i (some (.int x))) rest) : PO X P ce sl pc L (.int x :: rest) := by
  subst hi
  obtain ⟨p, l, e, R, s, m, args, below, meth, c, A, Q⟩ := X
  obtain ⟨hx, hb, hml, hown, hts, hA, hlk⟩ := hC
  intro H locs ls hP hS hl
  exact lv_istore_n hx hb hdg rfl hl.has hj rfl (fun ls' h' => k H locs ls' hP hS (hl.store rfl h'))
theorem po_istore (hC : CP X cc own Ts nL) {j : Nat} {x : Int32} (hdg : decode cc pc = .ok (.istore j, 2)) (hj : j < L.length) (k : PO X P ce sl (pc + 2) (L.set j (some (.int x))) rest) : PO X P ce sl pc L (.int x :: rest) := by
  obtain ⟨p, l, e, R, s, m, args, below, meth, c, A, Q⟩ := X
  obtain ⟨hx, hb, hml, hown, hts, hA, hlk⟩ := hC
  intro H locs ls hP hS hl
  exact lv_istore hx hb hdg hl.has hj rfl (fun ls' h' => k H locs ls' hP hS (hl.store rfl h'))
theorem po_aload_n (hC : CP X cc own Ts nL) {j : Fin 4} {x : Nat} (hdg : decode cc pc = .ok (.aload_n j, 1)) (hL : L[j.val]? = some (some (.ref x))) (k : PO X P ce sl (pc + 1) L (.ref x :: rest)) : PO X P ce sl pc L rest := by
  obtain ⟨p, l, e, R, s, m, args, below, meth, c, A, Q⟩ := X
  obtain ⟨hx, hb, hml, hown, hts, hA, hlk⟩ := hC
  intro H locs ls hP hS hl
  exact lv_aload_n hx hb hdg rfl (hl.2.2 _ _ hL).2 (k H locs ls hP hS hl)
theorem po_aload (hC : CP X cc own Ts nL) {j : Nat} {x : Nat} (hdg : decode cc pc = .ok (.aload j, 2)) (hL : L[j]? = some (some (.ref x))) (k : PO X P ce sl (pc + 2) L (.ref x :: rest)) : PO X P ce sl pc L rest := by
  obtain ⟨p, l, e, R, s, m, args, below, meth, c, A, Q⟩ := X
  obtain ⟨hx, hb, hml, hown, hts, hA, hlk⟩ := hC
  intro H locs ls hP hS hl
  exact lv_aload hx hb hdg (hl.2.2 _ _ hL).2 (k H locs ls hP hS hl)
theorem po_astore_n (hC : CP X cc own Ts nL) {j : Fin 4} {x : Nat} (i : Nat) (hdg : decode cc pc = .ok (.astore_n j, 1)) (hi : j.val = i) (hj : i < L.length) (k : PO X P ce sl (pc + 1) (L.set i (some (.ref x))) rest) : PO X P ce sl pc L (.ref x :: rest) := by
  subst hi
  obtain ⟨p, l, e, R, s, m, args, below, meth, c, A, Q⟩ := X
  obtain ⟨hx, hb, hml, hown, hts, hA, hlk⟩ := hC
  intro H locs ls hP hS hl
  exact lv_astore_n hx hb hdg rfl hl.has hj rfl (fun ls' h' => k H locs ls' hP hS (hl.store rfl h'))
theorem po_astore (hC : CP X cc own Ts nL) {j : Nat} {x : Nat} (hdg : decode cc pc = .ok (.astore j, 2)) (hj : j < L.length) (k : PO X P ce sl (pc + 2) (L.set j (some (.ref x))) rest) : PO X P ce sl pc L (.ref x :: rest) := by
  obtain ⟨p, l, e, R, s, m, args, below, meth, c, A, Q⟩ := X
  obtain ⟨hx, hb, hml, hown, hts, hA, hlk⟩ := hC
  intro H locs ls hP hS hl
  exact lv_astore hx hb hdg hl.has hj rfl (fun ls' h' => k H locs ls' hP hS (hl.store rfl h'))
theorem po_iinc (hC : CP X cc own Ts nL) {j : Nat} {n : Int} {x v : Int32} (hdg : decode cc pc = .ok (.iinc j n, 3)) (hL : L[j]? = some (some (.int x))) (hv : Int32.ofInt n = v) (k : PO X P ce sl (pc + 3) (L.set j (some (.int (x + v)))) rest) : PO X P ce sl pc L rest := by
  subst hv
  obtain ⟨p, l, e, R, s, m, args, below, meth, c, A, Q⟩ := X
  obtain ⟨hx, hb, hml, hown, hts, hA, hlk⟩ := hC
  intro H locs ls hP hS hl
  obtain ⟨i0, hi0⟩ := List.getElem?_of_mem (gm_pairs_mem.mpr hL)
  exact lv_iinc hx hb hdg hl.has hi0 rfl (List.getElem?_eq_some_iff.mp hL).1 rfl (fun ls' h' => k H locs ls' hP hS (hl.store rfl h'))
theorem po_if_eq (hC : CP X cc own Ts nL) {x : Int32} {off : Int} (tgt : Nat) (hdg : decode cc pc = .ok (.ifCond .eq off, 3)) (ht : (pc : Int) + off = (tgt : Int)) (kt : x = 0 → PO X P ce sl tgt L rest) (kf : ¬ (x = 0) → PO X P ce sl (pc + 3) L rest) : PO X P ce sl pc L (.int x :: rest) := by
  obtain ⟨p, l, e, R, s, m, args, below, meth, c, A, Q⟩ := X
  obtain ⟨hx, hb, hml, hown, hts, hA, hlk⟩ := hC
  intro H locs ls hP hS hl
  exact lv_if_eq hx hb hdg ht (fun h => kt h H locs ls hP hS hl) (fun h => kf h H locs ls hP hS hl)
theorem po_icmp_eq (hC : CP X cc own Ts nL) {x y : Int32} {off : Int} (tgt : Nat) (hdg : decode cc pc = .ok (.if_icmp .eq off, 3)) (ht : (pc : Int) + off = (tgt : Int)) (kt : x = y → PO X P ce sl tgt L rest) (kf : ¬ (x = y) → PO X P ce sl (pc + 3) L rest) : PO X P ce sl pc L (.int y :: .int x :: rest) := by
  obtain ⟨p, l, e, R, s, m, args, below, meth, c, A, Q⟩ := X
  obtain ⟨hx, hb, hml, hown, hts, hA, hlk⟩ := hC
  intro H locs ls hP hS hl
  exact lv_icmp_eq hx hb hdg ht (fun h => kt h H locs ls hP hS hl) (fun h => kf h H locs ls hP hS hl)
theorem po_if_ne (hC : CP X cc own Ts nL) {x : Int32} {off : Int} (tgt : Nat) (hdg : decode cc pc = .ok (.ifCond .ne off, 3)) (ht : (pc : Int) + off = (tgt : Int)) (kt : ¬ x = 0 → PO X P ce sl tgt L rest) (kf : x = 0 → PO X P ce sl (pc + 3) L rest) : PO X P ce sl pc L (.int x :: rest) := by
  obtain ⟨p, l, e, R, s, m, args, below, meth, c, A, Q⟩ := X
  obtain ⟨hx, hb, hml, hown, hts, hA, hlk⟩ := hC
  intro H locs ls hP hS hl
  exact lv_if_ne hx hb hdg ht (fun h => kt h H locs ls hP hS hl) (fun h => kf h H locs ls hP hS hl)
theorem po_icmp_ne (hC : CP X cc own Ts nL) {x y : Int32} {off : Int} (tgt : Nat) (hdg : decode cc pc = .ok (.if_icmp .ne off, 3)) (ht : (pc : Int) + off = (tgt : Int)) (kt : ¬ x = y → PO X P ce sl tgt L rest) (kf : x = y → PO X P ce sl (pc + 3) L rest) : PO X P ce sl pc L (.int y :: .int x :: rest) := by
  obtain ⟨p, l, e, R, s, m, args, below, meth, c, A, Q⟩ := X
  obtain ⟨hx, hb, hml, hown, hts, hA, hlk⟩ := hC
  intro H locs ls hP hS hl
  exact lv_icmp_ne hx hb hdg ht (fun h => kt h H locs ls hP hS hl) (fun h => kf h H locs ls hP hS hl)
theorem po_if_ge (hC : CP X cc own Ts nL) {x : Int32} {off : Int} (tgt : Nat) (hdg : decode cc pc = .ok (.ifCond .ge off, 3)) (ht : (pc : Int) + off = (tgt : Int)) (kt : 0 ≤ x → PO X P ce sl tgt L rest) (kf : ¬ (0 ≤ x) → PO X P ce sl (pc + 3) L rest) : PO X P ce sl pc L (.int x :: rest) := by
  obtain ⟨p, l, e, R, s, m, args, below, meth, c, A, Q⟩ := X
  obtain ⟨hx, hb, hml, hown, hts, hA, hlk⟩ := hC
  intro H locs ls hP hS hl
  exact lv_if_ge hx hb hdg ht (fun h => kt h H locs ls hP hS hl) (fun h => kf h H locs ls hP hS hl)
theorem po_icmp_ge (hC : CP X cc own Ts nL) {x y : Int32} {off : Int} (tgt : Nat) (hdg : decode cc pc = .ok (.if_icmp .ge off, 3)) (ht : (pc : Int) + off = (tgt : Int)) (kt : y ≤ x → PO X P ce sl tgt L rest) (kf : ¬ (y ≤ x) → PO X P ce sl (pc + 3) L rest) : PO X P ce sl pc L (.int y :: .int x :: rest) := by
  obtain ⟨p, l, e, R, s, m, args, below, meth, c, A, Q⟩ := X
  obtain ⟨hx, hb, hml, hown, hts, hA, hlk⟩ := hC
  intro H locs ls hP hS hl
  exact lv_icmp_ge hx hb hdg ht (fun h => kt h H locs ls hP hS hl) (fun h => kf h H locs ls hP hS hl)
theorem po_if_gt (hC : CP X cc own Ts nL) {x : Int32} {off : Int} (tgt : Nat) (hdg : decode cc pc = .ok (.ifCond .gt off, 3)) (ht : (pc : Int) + off = (tgt : Int)) (kt : 0 < x → PO X P ce sl tgt L rest) (kf : ¬ (0 < x) → PO X P ce sl (pc + 3) L rest) : PO X P ce sl pc L (.int x :: rest) := by
  obtain ⟨p, l, e, R, s, m, args, below, meth, c, A, Q⟩ := X
  obtain ⟨hx, hb, hml, hown, hts, hA, hlk⟩ := hC
  intro H locs ls hP hS hl
  exact lv_if_gt hx hb hdg ht (fun h => kt h H locs ls hP hS hl) (fun h => kf h H locs ls hP hS hl)
theorem po_icmp_gt (hC : CP X cc own Ts nL) {x y : Int32} {off : Int} (tgt : Nat) (hdg : decode cc pc = .ok (.if_icmp .gt off, 3)) (ht : (pc : Int) + off = (tgt : Int)) (kt : y < x → PO X P ce sl tgt L rest) (kf : ¬ (y < x) → PO X P ce sl (pc + 3) L rest) : PO X P ce sl pc L (.int y :: .int x :: rest) := by
  obtain ⟨p, l, e, R, s, m, args, below, meth, c, A, Q⟩ := X
  obtain ⟨hx, hb, hml, hown, hts, hA, hlk⟩ := hC
  intro H locs ls hP hS hl
  exact lv_icmp_gt hx hb hdg ht (fun h => kt h H locs ls hP hS hl) (fun h => kf h H locs ls hP hS hl)
theorem po_goto (hC : CP X cc own Ts nL) {off : Int} (tgt : Nat) (hdg : decode cc pc = .ok (.goto off, 3)) (ht : (pc : Int) + off = (tgt : Int)) (k : PO X P ce sl tgt L rest) : PO X P ce sl pc L rest := by
  obtain ⟨p, l, e, R, s, m, args, below, meth, c, A, Q⟩ := X
  obtain ⟨hx, hb, hml, hown, hts, hA, hlk⟩ := hC
  intro H locs ls hP hS hl
  exact lv_goto hx hb hdg ht (k H locs ls hP hS hl)
theorem po_tabOut (hC : CP X cc own Ts nL) {dflt lo hi : Int} {offs : Array Int} {len : Nat} {x : Int32} (tgt : Nat) (hdg : decode cc pc = .ok (.tableswitch dflt lo hi offs, len)) (h : x.toInt < lo ∨ hi < x.toInt) (ht : (pc : Int) + dflt = (tgt : Int)) (k : PO X P ce sl tgt L rest) : PO X P ce sl pc L (.int x :: rest) := by
  obtain ⟨p, l, e, R, s, m, args, below, meth, c, A, Q⟩ := X
  obtain ⟨hx, hb, hml, hown, hts, hA, hlk⟩ := hC
  intro H locs ls hP hS hl
  exact lv_tableOut hx hb hdg h ht (k H locs ls hP hS hl)
theorem po_tabIn (hC : CP X cc own Ts nL) {dflt lo hi : Int} {offs : Array Int} {len : Nat} {x : Int32} {off : Int} (tgt : Nat) (hdg : decode cc pc = .ok (.tableswitch dflt lo hi offs, len)) (h1 : ¬ x.toInt < lo) (h2 : ¬ hi < x.toInt) (ho : offs[(x.toInt - lo).toNat]? = some off) (ht : (pc : Int) + off = (tgt : Int)) (k : PO X P ce sl tgt L rest) : PO X P ce sl pc L (.int x :: rest) := by
  obtain ⟨p, l, e, R, s, m, args, below, meth, c, A, Q⟩ := X
  obtain ⟨hx, hb, hml, hown, hts, hA, hlk⟩ := hC
  intro H locs ls hP hS hl
  exact lv_tableIn hx hb hdg h1 h2 ho ht (k H locs ls hP hS hl)
theorem po_widen {c2 s2 : Nat} {st : List Value} (h1 : ce ≤ c2) (h2 : sl ≤ s2) (k : PO X P c2 s2 pc L st) : PO X P ce sl pc L st := by
  obtain ⟨p, l, e, R, s, m, args, below, meth, c, A, Q⟩ := X
  intro H locs ls hP hS hl
  exact W.widen h1 h2 (k H locs ls hP hS hl)
theorem po_mono {P' : Heap → Prop} {st : List Value} (h : ∀ H, P H → P' H) (k : PO X P' ce sl pc L st) : PO X P ce sl pc L st := by
  obtain ⟨p, l, e, R, s, m, args, below, meth, c, A, Q⟩ := X
  intro H locs ls hP hS hl
  exact k H locs ls (h H hP) hS hl
theorem po_cast {st st' : List Value} (h : st = st') (k : PO X P ce sl pc L st') : PO X P ce sl pc L st := h ▸ k
theorem po_loc {L' : List (Option Value)} {st : List Value} (h : L = L') (k : PO X P ce sl pc L' st) : PO X P ce sl pc L st := h ▸ k
theorem po_sub {L' : List (Option Value)} {st : List Value} (k : PO X P ce sl pc L' st) (h : gm_le L' L) : PO X P ce sl pc L st := by
  obtain ⟨p, l, e, R, s, m, args, below, meth, c, A, Q⟩ := X
  intro H locs ls hP hS hl
  exact k H locs ls hP hS ⟨hl.1.trans h.1.symm, hl.2.1, fun i v hi => hl.2.2 i v (h.2 i v hi)⟩
theorem po_objInit (hC : CP X cc own Ts nL) {idx a : Nat} (h1 : Cond.methodLink own idx Lib.objectInit ∈ Ts) (h2 : Cond.instanceMethod Lib.objectInit ∈ Ts) (h3 : Cond.code Lib.objectInit ⟨#[0xb1]⟩ 1 none ∈ Ts) (hLn : L.length = nL) (hR : 1 ≤ (po_R X).frames ∧ (rest.map fun v => v.category).sum + 12 ≤ (po_R X).locals) (hdg : decode cc pc = .ok (.invokespecial idx, 3)) (k : PO X P ce sl (pc + 3) L rest) : PO X P ce sl pc L (.ref a :: rest) := by
  obtain ⟨p, l, e, R, s, m, args, below, meth, c, A, Q⟩ := X
  obtain ⟨hx, hb, hml, hown, hts, hA, hlk⟩ := hC
  intro H locs ls hP hS hl
  exact W.objInit hx hb hown (hts _ h1) (hts _ h2) (hts _ h3) rfl (by rw [hml, ← hLn]; exact hl.1) rfl hdg hR.1 (by simpa [F0, JFrame.monitorRoom, po_R] using hR.2) (W.eq (g2 := F0 m (pc + 3) ls rest) rfl (k H locs ls hP hS hl))
end PR
/-! ===== growing worlds ===== -/
def AF (D : va_G) (base n : Nat) (E : Nat → va_E) (H : Heap) : Prop := H.size = base + n ∧ ∀ i, i < n → va_at D vwCl (base + i, E i) H
def eU (E : Nat → va_E) (k : Nat) (e : va_E) : Nat → va_E := fun i => if i = k then e else E i
def oE (ci N : Nat) (F : Nat → Value) : va_E := .inr (ci, (List.range N).map F)
def aI (cy : Nat → ClassId) (t n : Nat) : va_E := .inl (cy t, n, .inl (fun _ => 0))
def aR (cy : Nat → ClassId) (t n : Nat) (f : Nat → Option Nat) : va_E := .inl (cy t, n, .inr (.inr (.inr (.inr f))))
def fU (F : Nat → Value) (k : Nat) (v : Value) : Nat → Value := fun i => if i = k then v else F i
theorem AF.push {D : va_G} {base n : Nat} {E : Nat → va_E} {H H1 : Heap} {e : va_E} (h : AF D base n E H) (z : H1.size = base + n + 1) (o : ∀ q : Nat, q < base + n → H1[q]? = H[q]?) (he : va_at D vwCl (base + n, e) H1) : AF D base (n + 1) (eU E n e) H1 := by
  refine ⟨by rw [z]; omega, fun i hi => ?_⟩
  unfold eU
  by_cases q : i = n
  · subst q; rw [if_pos rfl]; exact he
  · rw [if_neg q]; exact (h.2 i (by omega)).kept (o _ (by omega))
theorem AF.put {D : va_G} {base n i : Nat} {E : Nat → va_E} {H H1 : Heap} {e : va_E} (h : AF D base n E H) (z : H1.size = H.size) (o : ∀ q : Nat, q ≠ base + i → H1[q]? = H[q]?) (he : va_at D vwCl (base + i, e) H1) : AF D base n (eU E i e) H1 := by
  refine ⟨by rw [z]; exact h.1, fun j hj => ?_⟩
  unfold eU
  by_cases q : j = i
  · subst q; rw [if_pos rfl]; exact he
  · rw [if_neg q]; exact (h.2 j hj).kept (o _ (by omega))
theorem AF.congr {D : va_G} {base n : Nat} {E E' : Nat → va_E} {H : Heap} (h : AF D base n E H) (he : ∀ i, i < n → E i = E' i) : AF D base n E' H := ⟨h.1, fun i hi => by rw [← he i hi]; exact h.2 i hi⟩
theorem gm_putFW {p : Program} {l : Launch} {e : Env} {R : Room} {s : State} {m : MethodId} {args : Array Value} {below : List Frame} {meth : Method} {c : Code} {H : Heap} {locs : List Loc} {cells slots : Nat} {Q : State → Prop} {D : va_G} {cl : List vw_C} {a : Nat} {tys : List (ClassId × FieldType)} {ls : Array Slot} {cc : ByteArray} {own : String} {Ts : List Cond} {pc : Nat} {rest : List Value} (hexec : p.tables.exec = Jvm.exec) (hb : c.code = cc) {ref C : String} {T : u_T} {N ci index : Nat} (hts : ∀ w ∈ Ts, w.before args s = true) (hin : ∀ w ∈ u_ws C T N, w ∈ Ts) (ty0 : Nat → FieldType) (hty : ∀ k, k < N → parseFieldDescriptor (T k).2.2.1 = some (ty0 k)) (hnm : ∀ a, a < N → ∀ b, b < N → a ≠ b → (T a).2.1 ≠ (T b).2.1) (hown : s.vm.findClass own = some m.cls) (hK : va_K D cl tys s) {fs : List Value} (hat : va_at D cl (a, .inr (ci, fs)) H) (hc : cl[ci]? = some (C, T, N)) (k : Nat) (hk : k < N) (hlink : (Cond.fieldLink own index ref (T k).2.1 (T k).2.2.1).before args s = true) (hsame : ∀ x, s.fieldFound? (T k).1 (T k).2.1 (T k).2.2.1 = some x → s.fieldFound? ref (T k).2.1 (T k).2.2.1 = some x) (hfin : (T k).2.2.2 = true) (hin2 : meth.name = "<init>") (hdecl : (T k).1 = own) {v : Value} (hn : narrow (ty0 k) v = v) (hfit : fits (ty0 k) v = true) (hl : k < fs.length)
    (hdg : decode cc pc = .ok (.putfield index, 3)) (kk : ∀ (H1 : Heap) (i : Nat), va_at D cl (a, .inr (ci, fs.set k v)) H1 → H1.size = H.size → (∀ q : Nat, q ≠ a → H1[q]? = H[q]?) → W p l e R s m args below meth c H1 (locs ++ [⟨a, i⟩]) cells slots Q (F0 m (pc + 3) ls rest)) : W p l e R s m args below meth c H locs cells slots Q (F0 m pc ls (v :: .ref a :: rest)) := by
  have hap := va_apart (own := own) hts hin ty0 hty hnm hK hc
  obtain ⟨r, h1, cell, q1, q2, q3, q4⟩ := hat
  have hr : r = (C, T, N) := Option.some.inj (h1.symm.trans hc)
  subst hr
  obtain ⟨hS, hfc, kC, hkC, hkind⟩ := hK.1 ci _ hc
  obtain ⟨cf, kf, fi, f, hi, hsl⟩ := hS k hk
  have hlay := hts _ (hin _ (u_in_lay hk))
  unfold u_lay at hlay
  rw [if_pos hfin] at hlay
  have hst := (u_facts hfc hkC (u_lays hts hin hk) hi).1
  have hcf : m.cls = cf := by
    obtain ⟨_, _, c', _, _, _, -, -, hf', -, -, -, hown2, -⟩ := Cond.laysFinal_spec hlay
    have e1 : c' = cf := by have := hi.symm.trans hf'; simp at this; exact this.1.symm
    rw [hdecl] at hown2
    rw [← e1]; exact Option.some.inj (hown.symm.trans hown2)
  have h6 := u_fits hfc hkC hkind (Or.inr hlay) hi (hty k hk) hn hfit
  refine W.putFinK hexec hb hown hlink (hsame _ hi) hst hcf hin2 (by rw [q2]; exact h6) q1 q3 (by rw [hsl]; exact k2_hasslot (q4 k hk)) rfl rfl hdg fun H' e1 e2 e3 => ?_
  rw [hsl] at e1 ⊢
  exact kk H' _ ⟨_, hc, t_OB.to (V := updV (vp_V fs) k v) ⟨_, e1, q2, q3, t_set q4 hap hk v⟩ (fun j _ => vp_updV_set hl v j)⟩ e2 e3
section PA
variable {X : po_X} {D : va_G} {cy : Nat → ClassId} {base n : Nat} {E : Nat → va_E} {cc : ByteArray} {own : String} {Ts : List Cond} {nL ce sl pc : Nat} {L : List (Option Value)} {rest : List Value}
theorem po_newi (hC : CP X cc own Ts nL) (hK : va_K D vwCl (gm_ty cy) (po_s X)) (harr : Cond.arrayClass .int ∈ Ts) {v : Int32} (N : Nat) (hn : ¬ v < 0) (hN : v.toNatClampNeg = N) (hN2 : N ≤ 1000) (hce : ce + 1 ≤ (po_R X).cells) (hsl : sl + N ≤ (po_R X).slots) (hdg : decode cc pc = .ok (.newarray .int, 2)) (k : PO X (AF D base (n + 1) (eU E n (aI cy 0 N))) (ce + 1) (sl + N) (pc + 2) L (.ref (base + n) :: rest)) : PO X (AF D base n E) ce sl pc L (.int v :: rest) := by
  obtain ⟨p, l, e, R, s, m, args, below, meth, c, A, Q⟩ := X
  obtain ⟨hx, hb, hml, hown, hts, hA, hlk⟩ := hC
  intro H locs ls hP hS hl
  refine va_newaK (atype := .int) hx hb (hts _ harr) rfl hdg rfl hn hN (by show N * _ ≤ _; simp [newarray.typeOf, componentBytes]; omega) hce hsl hP.1 fun H1 cA e1 z1 o1 hAr hNm => ?_
  have hcA : cA = cy 0 := Option.some.inj (hNm.symm.trans (hK.2 0 _ rfl).2)
  subst hcA
  refine k H1 locs ls (hP.push z1 o1 ?_) ⟨Nat.le_trans hS.1 (by rw [z1, hP.1]; omega), fun x h1 h2 => (o1 x (by have := hS.1; have := hP.1; omega)).trans (hS.2.1 x h1 h2), hS.2.2⟩ hl
  show H1[base + n]? = some (vp_cell _ _)
  rw [vp_cell_i]
  exact e1
theorem po_newz (hC : CP X cc own Ts nL) (hK : va_K D vwCl (gm_ty cy) (po_s X)) (harr : Cond.arrayClass .boolean ∈ Ts) {v : Int32} (N : Nat) (hn : ¬ v < 0) (hN : v.toNatClampNeg = N) (hN2 : N ≤ 1000) (hce : ce + 1 ≤ (po_R X).cells) (hsl : sl + N ≤ (po_R X).slots) (hdg : decode cc pc = .ok (.newarray .boolean, 2)) (k : PO X (AF D base (n + 1) (eU E n (aI cy 1 N))) (ce + 1) (sl + N) (pc + 2) L (.ref (base + n) :: rest)) : PO X (AF D base n E) ce sl pc L (.int v :: rest) := by
  obtain ⟨p, l, e, R, s, m, args, below, meth, c, A, Q⟩ := X
  obtain ⟨hx, hb, hml, hown, hts, hA, hlk⟩ := hC
  intro H locs ls hP hS hl
  refine va_newaK (atype := .boolean) hx hb (hts _ harr) rfl hdg rfl hn hN (by show N * _ ≤ _; simp [newarray.typeOf, componentBytes]; omega) hce hsl hP.1 fun H1 cA e1 z1 o1 hAr hNm => ?_
  have hcA : cA = cy 1 := Option.some.inj (hNm.symm.trans (hK.2 1 _ rfl).2)
  subst hcA
  refine k H1 locs ls (hP.push z1 o1 ?_) ⟨Nat.le_trans hS.1 (by rw [z1, hP.1]; omega), fun x h1 h2 => (o1 x (by have := hS.1; have := hP.1; omega)).trans (hS.2.1 x h1 h2), hS.2.2⟩ hl
  show H1[base + n]? = some (vp_cell _ _)
  rw [vp_cell_i]
  exact e1
theorem po_newq (hC : CP X cc own Ts nL) (hK : va_K D vwCl (gm_ty cy) (po_s X)) {C : String} {index t : Nat} (hcl : Cond.classLink own index C ∈ Ts) (ht : (gm_ty cy)[t]? = some (cy t, .object C)) (hao : va_AO C (po_s X)) {v : Int32} (N : Nat) (hn : ¬ v < 0) (hN : v.toNatClampNeg = N) (hN2 : N ≤ 1000) (hce : ce + 1 ≤ (po_R X).cells) (hsl : sl + N ≤ (po_R X).slots) (hdg : decode cc pc = .ok (.anewarray index, 3)) (k : PO X (AF D base (n + 1) (eU E n (aR cy t N (fun _ => none)))) (ce + 1) (sl + N) (pc + 3) L (.ref (base + n) :: rest)) : PO X (AF D base n E) ce sl pc L (.int v :: rest) := by
  obtain ⟨p, l, e, R, s, m, args, below, meth, c, A, Q⟩ := X
  obtain ⟨hx, hb, hml, hown, hts, hA, hlk⟩ := hC
  intro H locs ls hP hS hl
  subst hN
  refine W.anew hx hb hown (hts _ hcl) (va_AO.use hao) rfl hdg rfl hn (by omega) hce hsl fun cA kA comp f1 f2 f3 f4 => ?_
  obtain ⟨kA', comp', g1, g2, g3, g4⟩ := (hK.2 t _ ht).2
  have hcA : cA = cy t := Option.some.inj (f1.symm.trans g4)
  subst hcA
  rw [hP.1]
  generalize hH1 : H.push ({ cls := cy t, slots := Array.replicate v.toNatClampNeg .null, vm := .none } : Cell) = H1
  have z1 : H1.size = base + n + 1 := by rw [← hH1, Array.size_push, hP.1]
  have e1 : H1[base + n]? = some (arrV (cy t) v.toNatClampNeg (fun _ => .null)) := by rw [← hH1, ← hP.1, Array.getElem?_push_size, ← arrV_new]
  have o1 : ∀ q : Nat, q < base + n → H1[q]? = H[q]? := fun q hq => by rw [← hH1, Array.getElem?_push, if_neg (by rw [hP.1]; omega)]
  refine k H1 locs ls (hP.push z1 o1 ?_) ⟨Nat.le_trans hS.1 (by rw [z1, hP.1]; omega), fun x h1 h2 => (o1 x (by have := hS.1; have := hP.1; omega)).trans (hS.2.1 x h1 h2), hS.2.2⟩ hl
  show H1[base + n]? = some (vp_cell _ _)
  rw [vp_cell_q]
  exact e1
theorem po_newo (hC : CP X cc own Ts nL) (hK : va_K D vwCl (gm_ty cy) (po_s X)) {C : String} {T : u_T} {N ci index : Nat} (hin : ∀ w ∈ u_ws C T N, w ∈ Ts) (ty : Nat → FieldType) (hty : ∀ k, k < N → parseFieldDescriptor (T k).2.2.1 = some (ty k)) (hcl : Cond.classLink own index C ∈ Ts) (hinst : Cond.instantiable C N ∈ Ts) (hini : Cond.initialized C ∈ Ts) (hc : vwCl[ci]? = some (C, T, N)) (hce : ce + 1 ≤ (po_R X).cells) (hsl : sl + N ≤ (po_R X).slots) (hdg : decode cc pc = .ok (.new index, 3)) (k : PO X (AF D base (n + 1) (eU E n (oE ci N (fun j => defaultValue (ty j))))) (ce + 1) (sl + N) (pc + 3) L (.ref (base + n) :: rest)) : PO X (AF D base n E) ce sl pc L rest := by
  obtain ⟨p, l, e, R, s, m, args, below, meth, c, A, Q⟩ := X
  obtain ⟨hx, hb, hml, hown, hts, hA, hlk⟩ := hC
  intro H locs ls hP hS hl
  have hKn := hK.1 ci _ hc
  refine W.newcK hx hb hown (hts _ hcl) (hts _ hinst) (hts _ hini) rfl hdg hce hsl hKn.2.1 hP.1 fun H1 kC hkC e1 z1 o1 => ?_
  refine W.eq (g2 := F0 m (pc + 3) ls (.ref (base + n) :: rest)) rfl ?_
  refine k H1 locs ls (hP.push z1 o1 ⟨_, hc, (u_born ty hts hin hKn hkC e1 hty).to (fun j hj => ?_)⟩) ⟨Nat.le_trans hS.1 (by rw [z1, hP.1]; omega), fun x h1 h2 => (o1 x (by have := hS.1; have := hP.1; omega)).trans (hS.2.1 x h1 h2), hS.2.2⟩ hl
  simp [vp_V, hj]
theorem po_put (hC : CP X cc own Ts nL) (hK : va_K D vwCl (gm_ty cy) (po_s X)) (hAx : ∀ q, base ≤ q → po_A X q) {C : String} {T : u_T} {N ci index : Nat} {F : Nat → Value} {v : Value} (i f : Nat) (hin : ∀ w ∈ u_ws C T N, w ∈ Ts) (ty0 : Nat → FieldType) (hty : ∀ k, k < N → parseFieldDescriptor (T k).2.2.1 = some (ty0 k)) (hnm : ∀ a, a < N → ∀ b, b < N → a ≠ b → (T a).2.1 ≠ (T b).2.1) (hc : vwCl[ci]? = some (C, T, N)) (hi : i < n) (hE : E i = oE ci N F) (hf : f < N) (hlink : Cond.fieldLink own index (T f).1 (T f).2.1 (T f).2.2.1 ∈ Ts) (hfin : (T f).2.2.2 = false) (hnar : narrow (ty0 f) v = v) (hfit : fits (ty0 f) v = true) (hdg : decode cc pc = .ok (.putfield index, 3)) (k : PO X (AF D base n (eU E i (oE ci N (fU F f v)))) ce sl (pc + 3) L rest) : PO X (AF D base n E) ce sl pc L (v :: .ref (base + i) :: rest) := by
  obtain ⟨p, l, e, R, s, m, args, below, meth, c, A, Q⟩ := X
  obtain ⟨hx, hb, hml, hown, hts, hA, hlk⟩ := hC
  intro H locs ls hP hS hl
  have h1 := hP.2 i hi
  rw [hE, oE] at h1
  refine gm_putW hx hb hts hin ty0 hty hnm hown hK h1 hc f hf (hts _ hlink) (fun _ h9 => h9) hfin hnar hfit (by simp; exact hf) hdg (fun H1 i9 e1 e2 e3 => ?_)
  refine k H1 _ ls (hP.put e2 e3 ?_) (hS.put e2 e3 (hAx _ (by omega))) hl
  rw [gm_set (g' := fU F f v) (by simp [fU]) (fun j hj => by simp [fU, hj])] at e1
  exact e1
theorem po_putF (hC : CP X cc own Ts nL) (hK : va_K D vwCl (gm_ty cy) (po_s X)) (hAx : ∀ q, base ≤ q → po_A X q) {C : String} {T : u_T} {N ci index : Nat} {F : Nat → Value} {v : Value} (i f : Nat) (hin : ∀ w ∈ u_ws C T N, w ∈ Ts) (ty0 : Nat → FieldType) (hty : ∀ k, k < N → parseFieldDescriptor (T k).2.2.1 = some (ty0 k)) (hnm : ∀ a, a < N → ∀ b, b < N → a ≠ b → (T a).2.1 ≠ (T b).2.1) (hc : vwCl[ci]? = some (C, T, N)) (hi : i < n) (hE : E i = oE ci N F) (hf : f < N) (hlink : Cond.fieldLink own index (T f).1 (T f).2.1 (T f).2.2.1 ∈ Ts) (hfin : (T f).2.2.2 = true) (hini : (po_me X).name = "<init>") (hdecl : (T f).1 = own) (hnar : narrow (ty0 f) v = v) (hfit : fits (ty0 f) v = true) (hdg : decode cc pc = .ok (.putfield index, 3)) (k : PO X (AF D base n (eU E i (oE ci N (fU F f v)))) ce sl (pc + 3) L rest) : PO X (AF D base n E) ce sl pc L (v :: .ref (base + i) :: rest) := by
  obtain ⟨p, l, e, R, s, m, args, below, meth, c, A, Q⟩ := X
  obtain ⟨hx, hb, hml, hown, hts, hA, hlk⟩ := hC
  intro H locs ls hP hS hl
  have h1 := hP.2 i hi
  rw [hE, oE] at h1
  refine gm_putFW hx hb hts hin ty0 hty hnm hown hK h1 hc f hf (hts _ hlink) (fun _ h9 => h9) hfin hini hdecl hnar hfit (by simp; exact hf) hdg (fun H1 i9 e1 e2 e3 => ?_)
  refine k H1 _ ls (hP.put e2 e3 ?_) (hS.put e2 e3 (hAx _ (by omega))) hl
  rw [gm_set (g' := fU F f v) (by simp [fU]) (fun j hj => by simp [fU, hj])] at e1
  exact e1
theorem po_getr (hC : CP X cc own Ts nL) (hK : va_K D vwCl (gm_ty cy) (po_s X)) {C : String} {T : u_T} {N ci index a : Nat} {F : Nat → Value} (i f : Nat) (hin : ∀ w ∈ u_ws C T N, w ∈ Ts) (hc : vwCl[ci]? = some (C, T, N)) (hi : i < n) (hE : E i = oE ci N F) (hf : f < N) (hF : F f = .ref a) (hlink : Cond.fieldLink own index (T f).1 (T f).2.1 (T f).2.2.1 ∈ Ts) (hdg : decode cc pc = .ok (.getfield index, 3)) (k : PO X (AF D base n E) ce sl (pc + 3) L (.ref a :: rest)) : PO X (AF D base n E) ce sl pc L (.ref (base + i) :: rest) := by
  obtain ⟨p, l, e, R, s, m, args, below, meth, c, A, Q⟩ := X
  obtain ⟨hx, hb, hml, hown, hts, hA, hlk⟩ := hC
  intro H locs ls hP hS hl
  have h1 := hP.2 i hi
  rw [hE, oE] at h1
  exact va_get (v := .ref a) hx hb hts hin hown hK (gm_one h1) 0 rfl hc f hf (hts _ hlink) (fun _ h9 => h9) (by rw [List.getElem?_map, List.getElem?_range hf]; simp [hF]) hdg (k H locs ls hP hS hl)
theorem po_aast (hC : CP X cc own Ts nL) (hK : va_K D vwCl (gm_ty cy) (po_s X)) (hAx : ∀ q, base ≤ q → po_A X q) {r : vw_C} {ci t N : Nat} {f : Nat → Option Nat} {vs : List Value} {v : Int32} (i jv : Nat) (ht : (gm_ty cy)[t]? = some (cy t, .object r.1)) (hc : vwCl[ci]? = some r) (hi : i < n) (hj : jv < n) (hE : E i = aR cy t N f) (hV : E jv = .inr (ci, vs)) (hin : vp_in v N) (hdg : decode cc pc = .ok (.aastore, 1)) (k : PO X (AF D base n (eU E i (aR cy t N (va_up f v.toNatClampNeg (some (base + jv)))))) ce sl (pc + 1) L rest) : PO X (AF D base n E) ce sl pc L (.ref (base + jv) :: .int v :: .ref (base + i) :: rest) := by
  obtain ⟨p, l, e, R, s, m, args, below, meth, c, A, Q⟩ := X
  obtain ⟨hx, hb, hml, hown, hts, hA, hlk⟩ := hC
  intro H locs ls hP hS hl
  have ha := hP.2 i hi
  rw [hE] at ha
  have hv := hP.2 jv hj
  rw [hV] at hv
  have hlt : v.toNatClampNeg < N := Nat.not_le.mp fun q => hin (Or.inr q)
  have h0 : ¬ v < 0 := fun q => hin (Or.inl q)
  obtain ⟨r', hr', cellV, g1, g2, g3, -⟩ := hv
  have hcls := (hK.1 ci r hc).2
  obtain ⟨kA, comp, k1, k2, k3, -⟩ := (hK.2 t _ ht).2
  have hcomp : comp = D.1 ci := Option.some.inj (k3.symm.trans hcls.1)
  subst hcomp
  obtain ⟨kC, hkC, -⟩ := hcls.2
  refine W.aast hx hb ha (fun q h => by cases h) (fun h => by cases h) k1 k2 rfl hkC ⟨h0, by show _ < (arrV _ _ _).slots.size; rw [arrV_size]; exact hlt⟩ g1 (fun q h => by rw [g3] at h; cases h) (by rw [g2]; exact hkC) (by rw [g2]; exact va_assign hcls) rfl rfl hdg fun H1 e9 z oq => ?_
  refine k H1 _ ls (hP.put z oq ?_) (hS.put z oq (hAx _ (by omega))) hl
  show H1[base + i]? = some (vp_cell _ _)
  rw [e9]
  rw [vp_cell_q, vp_cell_q, arrV_store]
  congr 2
  funext q
  by_cases hq : q = v.toNatClampNeg
  · subst hq
    simp [updV, va_up, va_rf]
  · simp [updV, va_up, hq]
end PA
/-! constructors: the object is the last cell; what it makes comes behind it -/
def PI (D : va_G) (cy : Nat → ClassId) (x : Nat) (e0 : va_E) : Array Value → State → Prop := va_Pc [.ref x] (fun U => AF D x 1 (fun _ => e0) U.heap ∧ va_K D vwCl (gm_ty cy) U ∧ NW U ∧ va_AO RX0 U ∧ va_AO RX1 U)
def QI (D : va_G) (x n : Nat) (E : Nat → va_E) : Array Value → State → Outcome → State → Prop := fun _ st oc t => (oc = .returned none ∧ AF D x n E t.heap) ∧ va_F (fun q => x ≤ q) st t
def IC (y : MethodName) (ws : List Cond) (rm : Room) (e0 : va_E) (n : Nat) (E : (Nat → ClassId) → Nat → Nat → va_E) (mc ms : Nat) : Prop := ∀ (l : Launch) (D : va_G) (cy : Nat → ClassId) (x : Nat), Met l y ws rm (PI D cy x e0) (QI D x n (E cy x)) mc ms (fun q => x ≤ q)
theorem PI.blind {D : va_G} {cy : Nat → ClassId} {x : Nat} {e0 : va_E} : FrameBlind (PI D cy x e0) := fun a U g mk q => by
  obtain ⟨q0, q1, qK, qN, qa, qb⟩ := q
  exact ⟨q0, q1, va_K.moved (u := U) (U := U.calling g mk a) (Vm.Alike.refl U.vm) qK, NW.same (u := U) (U := U.calling g mk a) rfl qN, va_AO.moved (u := U) (U := U.calling g mk a) (Vm.Alike.refl U.vm) qa, va_AO.moved (u := U) (U := U.calling g mk a) (Vm.Alike.refl U.vm) qb⟩
theorem IC.of {y : MethodName} {ws ws' : List Cond} {rm : Room} {cc : ByteArray} {maxL mc ms n : Nat} {own : String} {e0 : va_E} {E : (Nat → ClassId) → Nat → Nat → va_E} (hy : plainName y.cls = true) (hyi : y.name = "<init>") (hw : ws = Cond.code y cc maxL none :: ws') (hown : y.cls = own) (hlen : 1 ≤ maxL)
    (body : ∀ (X : po_X) (D : va_G) (cy : Nat → ClassId) (x : Nat), CP X cc own ws maxL → po_R X = rm → va_K D vwCl (gm_ty cy) (po_s X) → NW (po_s X) → va_AO RX0 (po_s X) → va_AO RX1 (po_s X) → (po_me X).name = "<init>" → (∀ q, x ≤ q → po_A X q)
      → (∀ (ce sl pc : Nat) (L : List (Option Value)), ce ≤ mc → sl ≤ ms → decode cc pc = .ok (.return_, 1) → PO X (AF D x n (E cy x)) ce sl pc L [])
      → PO X (AF D x 1 (fun _ => e0)) 0 0 0 (some (.ref x) :: List.replicate (maxL - 1) none) []) : IC y ws rm e0 n E mc ms := by
  intro l D cy x
  refine Met.ofW (cc := cc) (maxL := maxL) (ret := none) hy hw ?_
  intro p e s m args below meth c s₁ B hml hv
  obtain ⟨rfl, hF, hK, hN, ha, hb9⟩ := hv
  have hx := B.exec
  have hb := B.bytes
  have hr := B.returns
  have hts := atoms_spec (ws := ws) B.pre
  have hown' : s.vm.findClass own = some m.cls := by rw [← hown]; exact findClass_of_methodNamed B.named
  have hlocks := B.notSynchronized
  have hin : meth.name = "<init>" := by rw [← hyi]; exact (name_of_methodNamed B.named B.method).1
  have key := body (p, l, e, rm, s, m, [Value.ref x].toArray, below, meth, c, (fun q => x ≤ q), MQ below (QI D x n (E cy x)) [Value.ref x].toArray s mc ms (fun q => x ≤ q)) D cy x ⟨hx, hb, hml, hown', hts, fun q h => by have := hF.1; omega, hlocks⟩ rfl hK hN ha hb9 hin (fun q h => h) (by
    intro ce sl pc L h1 h2 hd2
    refine po_widen h1 h2 ?_
    intro H locs ls hP2 hS2 hl2
    exact W.vret hx hb hr (fun t ht _ => ⟨⟨rfl, by rw [ht]; exact hP2⟩, hS2.F ht⟩) hS2.2.2 hd2)
  rw [lg_entry_eq]
  have hg := gm_entry [Value.ref x] maxL (by simpa using hlen) (by simp [Value.category])
  exact key s.heap [] _ hF va_S.rf hg
section PC
variable {X : po_X} {D : va_G} {cy : Nat → ClassId} {base n : Nat} {E : Nat → va_E} {cc : ByteArray} {own : String} {Ts : List Cond} {nL ce sl pc : Nat} {L : List (Option Value)} {rest : List Value}
theorem AF.suf {D : va_G} {base n : Nat} {E : Nat → va_E} {H : Heap} (h : AF D base (n + 1) E H) : AF D (base + n) 1 (fun _ => E n) H := ⟨by rw [h.1]; omega, fun i hi => by rw [show i = 0 by omega]; exact h.2 n (by omega)⟩
theorem AF.join {D : va_G} {base n k : Nat} {E E2 : Nat → va_E} {H H1 : Heap} (h : AF D base (n + 1) E H) (h2 : AF D (base + n) k E2 H1) (o : ∀ q : Nat, q < H.size → ¬ base + n ≤ q → H1[q]? = H[q]?) : AF D base (n + k) (fun i => if i < n then E i else E2 (i - n)) H1 := by
  refine ⟨by rw [h2.1]; omega, fun i hi => ?_⟩
  show va_at D vwCl (base + i, if i < n then E i else E2 (i - n)) H1
  by_cases q : i < n
  · rw [if_pos q]; exact (h.2 i (by omega)).kept (o _ (by rw [h.1]; omega) (by omega))
  · rw [if_neg q]
    have := h2.2 (i - n) (by omega)
    rw [show base + n + (i - n) = base + i by omega] at this
    exact this
theorem po_afterI {p : Program} {l : Launch} {e : Env} {R : Room} {s : State} {m : MethodId} {args : Array Value} {below : List Frame} {meth : Method} {c : Code} {A : Nat → Prop} {Q : State → Prop} {a : Array Value} {H : Heap} {locs : List Loc} {ls : Array Slot} {st : List Value} {k mc ms : Nat} {E2 : Nat → va_E}
    (hAx : ∀ q, base ≤ q → A q) (hP : AF D base (n + 1) E H) (hS : va_S A s.heap H locs) (hl : gm_ls ls L)
    (hr : va_Run p l e R s m args below meth c H locs ce sl mc ms (F0 m pc ls st) rest (QI D (base + n) k E2 a) (fun q => base + n ≤ q))
    (kk : PO (p, l, e, R, s, m, args, below, meth, c, A, Q) (AF D base (n + k) (fun i => if i < n then E i else E2 (i - n))) (ce + mc) (sl + ms) (pc + 3) L rest) : W p l e R s m args below meth c H locs ce sl Q (F0 m pc ls st) := by
  intro T hT XX
  obtain ⟨v2, st₀, t, T', L', h0, X', hL', e1, e2, ⟨⟨hv, hPB⟩, hz, hk⟩, go⟩ := hr T hT XX
  cases hv
  rw [h0] at hz hk
  obtain ⟨t2, a1, b1⟩ := kk T'.heap (locs ++ L') ls (by rw [e1]; exact hP.join hPB hk)
    ⟨Nat.le_trans hS.1 (by rw [e1]; exact hz), fun q h1 h2 => by rw [e1, hk q (Nat.lt_of_lt_of_le h1 hS.1) (fun z => h2 (hAx q (by omega)))]; exact hS.2.1 q h1 h2, fun q hq => by
      rcases List.mem_append.mp hq with h | h
      · exact hS.2.2 q h
      · exact hAx _ (by have := hL' q h; omega)⟩ hl T' rfl X'
  exact ⟨t2, go t2 a1, b1⟩
theorem pi_pre {s : State} {H : Heap} (hP : AF D base (n + 1) E H) (hK : va_K D vwCl (gm_ty cy) s) (hN : NW s) (ha : va_AO RX0 s) (hb : va_AO RX1 s) : ∀ U : State, U.heap = H → s.WarmedH U.vm → PI D cy (base + n) (E n) [Value.ref (base + n)].toArray U := fun U hU hW => ⟨rfl, by rw [hU]; exact hP.suf, va_K.moved hW.alike hK, NW.warm hW hN, va_AO.moved hW.alike ha, va_AO.moved hW.alike hb⟩
/-- a constructor of ours is called on the last cell -/
theorem po_callI (hC : CP X cc own Ts nL) (hK : va_K D vwCl (gm_ty cy) (po_s X)) (hN : NW (po_s X)) (ha : va_AO RX0 (po_s X)) (hb : va_AO RX1 (po_s X)) (hAx : ∀ q, base ≤ q → po_A X q) {y : MethodName} {ws ws' : List Cond} {rm : Room} {e0 : va_E} {k mc ms maxL index : Nat} {bytes : ByteArray} {E2 : (Nat → ClassId) → Nat → Nat → va_E}
    (hM : IC y ws rm e0 k E2 mc ms) (hE : E n = e0) (hG : GoodIn Ts ws) (hw : ws = Cond.code y bytes maxL none :: ws') (hrc : rm.cells = mc ∧ rm.slots = ms) (hini : Cond.initialized y.cls ∈ Ts) (hlk : Cond.methodLink own index y ∈ Ts) (hins : Cond.instanceMethod y ∈ Ts) (hyi : y.name = "<init>") (hd : y.cls ≠ "java/lang/invoke/MethodHandle" ∧ y.cls ≠ "java/lang/invoke/VarHandle" ∧ (parseMethodDescriptor y.desc).map (fun d => d.parameters.length) = some 0) (hR : rm.frames + 1 ≤ (po_R X).frames ∧ 8 + (maxL + 11) + rm.locals ≤ (po_R X).locals) (hf : ce + mc ≤ (po_R X).cells ∧ sl + ms ≤ (po_R X).slots) (hLn : L.length = nL) (hcat : (rest.map fun v => v.category).sum ≤ 8) (hdg : decode cc pc = .ok (.invokespecial index, 3))
    (kk : PO X (AF D base (n + k) (fun i => if i < n then E i else E2 cy (base + n) (i - n))) (ce + mc) (sl + ms) (pc + 3) L rest) : PO X (AF D base (n + 1) E) ce sl pc L (.ref (base + n) :: rest) := by
  obtain ⟨p, l, e, R, s, m, args, below, meth, c, A, Q⟩ := X
  obtain ⟨hx, hb2, hml, hown, hts, hA, hlk2⟩ := hC
  intro H locs ls hP hS hl
  subst hE
  exact po_afterI hAx hP hS hl (va_runI (As := []) (rest := rest) ⟨hx, hb2, hml, hown, hts⟩ (hM l D cy (base + n)) (cwI 0 hts hG hw hrc.1 hrc.2 (hts _ hini) (hts _ hlk) (hts _ hins) hyi hd hR) ⟨PI.blind, pi_pre hP hK hN ha hb⟩ rfl rfl (hl.1.trans hLn) rfl (lv_room hcat) hdg hf) kk
/-- the container's constructor, called by a unit's over the nest -/
theorem po_callIN (hC : CP X cc RX1 Ts nL) (hK : va_K D vwCl (gm_ty cy) (po_s X)) (hN : NW (po_s X)) (ha : va_AO RX0 (po_s X)) (hb : va_AO RX1 (po_s X)) (hAx : ∀ q, base ≤ q → po_A X q) {ws ws' : List Cond} {rm : Room} {e0 : va_E} {k mc ms maxL : Nat} {bytes : ByteArray} {E2 : (Nat → ClassId) → Nat → Nat → va_E}
    (hM : IC yX0_init ws rm e0 k E2 mc ms) (hE : E n = e0) (hG : GoodIn Ts ws) (hw : ws = Cond.code yX0_init bytes maxL none :: ws') (hrc : rm.cells = mc ∧ rm.slots = ms) (hini : Cond.initialized yX0_init.cls ∈ Ts) (hins : Cond.instanceMethod yX0_init ∈ Ts) (hd : yX0_init.cls ≠ "java/lang/invoke/MethodHandle" ∧ yX0_init.cls ≠ "java/lang/invoke/VarHandle" ∧ (parseMethodDescriptor yX0_init.desc).map (fun d => d.parameters.length) = some 0) (hR : rm.frames + 1 ≤ (po_R X).frames ∧ 8 + (maxL + 11) + rm.locals ≤ (po_R X).locals) (hf : ce + mc ≤ (po_R X).cells ∧ sl + ms ≤ (po_R X).slots) (hLn : L.length = nL) (hcat : (rest.map fun v => v.category).sum ≤ 8) (hdg : decode cc pc = .ok (.invokespecial 17, 3))
    (kk : PO X (AF D base (n + k) (fun i => if i < n then E i else E2 cy (base + n) (i - n))) (ce + mc) (sl + ms) (pc + 3) L rest) : PO X (AF D base (n + 1) E) ce sl pc L (.ref (base + n) :: rest) := by
  obtain ⟨p, l, e, R, s, m, args, below, meth, c, A, Q⟩ := X
  obtain ⟨hx, hb2, hml, hown, hts, hA, hlk2⟩ := hC
  intro H locs ls hP hS hl
  subst hE
  exact po_afterI hAx hP hS hl (va_runIN (As := []) (rest := rest) ⟨hx, hb2, hml, hown, hts⟩ (hM l D cy (base + n)) ⟨va_cnB 0 hts hG hw hrc.1 hrc.2 hN.2 (hts _ hini) hd hR, rfl, hts _ hins⟩ ⟨PI.blind, pi_pre hP hK hN ha hb⟩ rfl rfl (hl.1.trans hLn) rfl (lv_room hcat) hdg hf) kk
end PC
