/-! ===== static worlds: objects and arrays that are made once; only their ints move ===== -/
/-- the ints: kind, place, object -/
abbrev gm_M : Type := Nat → Nat → Nat → Int32
/-- a kind: how many there are, and what they are: objects (number of the class, of fields; which fields lead to which kind), rows of ints (number of the type, length), rows of references (kind, factor, length, number of the type) -/
abbrev gm_K : Type := Nat × ((Nat × Nat × (Nat → Option Nat)) ⊕ ((Nat × Nat) ⊕ (Nat × Nat × Nat × Nat)))
abbrev gm_L : Type := Nat → gm_K
def gm_f (sr : Nat → Option Nat) (ad : Nat → Nat → Nat) (M : gm_M) (k n f : Nat) : Value := match sr f with
  | some k' => .ref (ad k' n)
  | none => .int (M k f n)
def gm_cell (Ly : gm_L) (cy : Nat → ClassId) (ad : Nat → Nat → Nat) (M : gm_M) (k n : Nat) : va_E := match (Ly k).2 with
  | .inl o => .inr (o.1, (List.range o.2.1).map (gm_f o.2.2 ad M k n))
  | .inr (.inl r) => .inl (cy r.1, r.2, .inl (fun j => M k j n))
  | .inr (.inr r) => .inl (cy r.2.2.2, r.2.2.1, .inr (.inr (.inr (.inr (fun j => some (ad r.1 (r.2.1 * n + j)))))))
def gm_P (D : va_G) (Ly : gm_L) (cy : Nat → ClassId) (ad : Nat → Nat → Nat) (M : gm_M) (H : Heap) : Prop := ∀ k n : Nat, n < (Ly k).1 → va_at D vwCl (ad k n, gm_cell Ly cy ad M k n) H
def gm_I (Ly : gm_L) (ad : Nat → Nat → Nat) : Prop := ∀ k n k' n' : Nat, n < (Ly k).1 → n' < (Ly k').1 → ad k n = ad k' n' → k = k' ∧ n = n'
def gm_ty (cy : Nat → ClassId) : List (ClassId × FieldType) := [(cy 0, .int), (cy 1, .boolean), (cy 2, .object RX0), (cy 3, .object RX1)]
def gm_up (M : gm_M) (k f n : Nat) (x : Int32) : gm_M := fun k' f' n' => if k' = k ∧ f' = f ∧ n' = n then x else M k' f' n'
theorem gm_cell_ne {Ly : gm_L} {cy : Nat → ClassId} {ad : Nat → Nat → Nat} {M : gm_M} {k f n k' n' : Nat} {x : Int32} (h : ¬ (k' = k ∧ n' = n)) : gm_cell Ly cy ad (gm_up M k f n x) k' n' = gm_cell Ly cy ad M k' n' := by
  have e : ∀ f', gm_up M k f n x k' f' n' = M k' f' n' := fun f' => if_neg (fun q => h ⟨q.1, q.2.2⟩)
  unfold gm_cell
  cases (Ly k').2 with
  | inl o =>
    have e2 : gm_f o.2.2 ad (gm_up M k f n x) k' n' = gm_f o.2.2 ad M k' n' := by
      funext f'
      simp only [gm_f, e]
    exact congrArg (fun z => (Sum.inr (o.1, List.map z (List.range o.2.1)) : va_E)) e2
  | inr r =>
    cases r with
    | inl r => simp only [e]
    | inr r => rfl
theorem gm_set {N f : Nat} {g g' : Nat → Value} {v : Value} (h1 : g' f = v) (h2 : ∀ j, j ≠ f → g' j = g j) : ((List.range N).map g).set f v = (List.range N).map g' := by
  apply List.ext_getElem?
  intro i
  by_cases hi : i = f
  · subst hi
    rw [List.getElem?_set]
    by_cases hN : i < N
    · simp [hN, h1]
    · simp [hN]
  · rw [List.getElem?_set_ne (Ne.symm hi)]
    by_cases hN : i < N
    · simp [hN, h2 i hi]
    · simp [hN]
theorem gm_one {D : va_G} {a : Nat} {e : va_E} {H : Heap} (h : va_at D vwCl (a, e) H) : va_P D vwCl [(a, e)] H := by
  intro k q hk
  match k, hk with
  | 0, hk => cases hk; exact h
  | k + 1, hk => simp at hk
theorem gm_P.kept {D : va_G} {Ly : gm_L} {cy : Nat → ClassId} {ad : Nat → Nat → Nat} {M : gm_M} {H H1 : Heap} (h : gm_P D Ly cy ad M H) (hq : ∀ k n : Nat, n < (Ly k).1 → H1[ad k n]? = H[ad k n]?) : gm_P D Ly cy ad M H1 := fun k n hn => (h k n hn).kept (hq k n hn)
theorem gm_P.set {D : va_G} {Ly : gm_L} {cy : Nat → ClassId} {ad : Nat → Nat → Nat} {M : gm_M} {H H1 : Heap} {k f n : Nat} {x : Int32} (h : gm_P D Ly cy ad M H) (hI : gm_I Ly ad) (hn : n < (Ly k).1) (he : va_at D vwCl (ad k n, gm_cell Ly cy ad (gm_up M k f n x) k n) H1) (oq : ∀ q : Nat, q ≠ ad k n → H1[q]? = H[q]?) : gm_P D Ly cy ad (gm_up M k f n x) H1 := by
  intro k' n' hn'
  by_cases hk : k' = k ∧ n' = n
  · obtain ⟨rfl, rfl⟩ := hk
    exact he
  · rw [gm_cell_ne hk]
    exact (h k' n' hn').kept (oq _ (fun z => hk (hI k' n' k n hn' hn z)))
/-- the machine's part and the world's part of a walk -/
abbrev gm_X : Type := Program × Launch × Env × Room × State × MethodId × Array Value × List Frame × Method × Code × (va_G × (Nat → ClassId) × (Nat → Nat → Nat)) × (Nat → Prop) × (State → Prop)
def gm_l (X : gm_X) : Launch := X.2.1
def gm_R (X : gm_X) : Room := X.2.2.2.1
def gm_s (X : gm_X) : State := X.2.2.2.2.1
def gm_D (X : gm_X) : va_G := X.2.2.2.2.2.2.2.2.2.2.1.1
def gm_cy (X : gm_X) : Nat → ClassId := X.2.2.2.2.2.2.2.2.2.2.1.2.1
def gm_ad (X : gm_X) : Nat → Nat → Nat := X.2.2.2.2.2.2.2.2.2.2.1.2.2
/-- the locals -/
def gm_ls (ls : Array Slot) (L : List (Option Value)) : Prop := ls.size = L.length ∧ lv_wf ls ∧ ∀ (i : Nat) (v : Value), L[i]? = some (some v) → v.category = 1 ∧ ls[i]? = some (.val v)
/-- the walk stands at pc, with the locals L, the stack st, the ints M -/
def GO (Ly : gm_L) (X : gm_X) (cells slots pc : Nat) (L : List (Option Value)) (st : List Value) (M : gm_M) : Prop := match X with
  | (p, l, e, R, s, m, args, below, meth, c, (D, cy, ad), A, Q) => ∀ (H : Heap) (locs : List Loc) (ls : Array Slot), gm_P D Ly cy ad M H → va_S A s.heap H locs → gm_ls ls L → W p l e R s m args below meth c H locs cells slots Q (F0 m pc ls st)
/-- what holds of the machine and of the tables all through a walk -/
def CX (Ly : gm_L) (X : gm_X) (cc : ByteArray) (own : String) (Ts : List Cond) (nL : Nat) : Prop := match X with
  | (p, _, _, _, s, m, args, _, meth, c, (D, cy, ad), A, _) => p.tables.exec = Jvm.exec ∧ c.code = cc ∧ c.maxLocals = nL ∧ s.vm.findClass own = some m.cls ∧ (∀ w ∈ Ts, w.before args s = true) ∧ va_K D vwCl (gm_ty cy) s ∧ gm_I Ly ad ∧ (∀ k n : Nat, n < (Ly k).1 → A (ad k n)) ∧ (∀ q : Nat, s.heap.size ≤ q → A q) ∧ meth.locks = false
def gm_pairs (L : List (Option Value)) : List (Nat × Value) := (List.range L.length).filterMap (fun i => match L[i]? with
  | some (some v) => some (i, v)
  | _ => none)
theorem gm_pairs_mem {L : List (Option Value)} {i : Nat} {v : Value} : (i, v) ∈ gm_pairs L ↔ L[i]? = some (some v) := by
  unfold gm_pairs
  rw [List.mem_filterMap]
  constructor
  · rintro ⟨j, -, hj⟩
    split at hj
    · rename_i w hw
      cases hj
      exact hw
    · cases hj
  · intro h
    refine ⟨i, List.mem_range.mpr ?_, by rw [h]⟩
    exact (List.getElem?_eq_some_iff.mp h).1
theorem gm_ls.has {ls : Array Slot} {L : List (Option Value)} (h : gm_ls ls L) : lv_has ls L.length (gm_pairs L) := ⟨h.1, h.2.1, fun q hq => (h.2.2 q.1 q.2 (gm_pairs_mem.mp hq)).2⟩
theorem gm_ls.store {ls ls' : Array Slot} {L : List (Option Value)} {i : Nat} {v : Value} (h : gm_ls ls L) (hc : v.category = 1) (h' : lv_has ls' L.length ((i, v) :: (gm_pairs L).filter (fun q => !(q.1 == i) && !(q.1 + 1 == i && q.2.category == 2)))) : gm_ls ls' (L.set i (some v)) := by
  refine ⟨by rw [List.length_set]; exact h'.1, h'.2.1, fun j w hj => ?_⟩
  by_cases hji : j = i
  · subst hji
    rw [List.getElem?_set] at hj
    simp at hj
    obtain ⟨-, rfl⟩ := hj
    exact ⟨hc, h'.2.2 (j, v) List.mem_cons_self⟩
  · rw [List.getElem?_set_ne (Ne.symm hji)] at hj
    have h1 := (h.2.2 j w hj).1
    refine ⟨h1, h'.2.2 (j, w) (List.mem_cons_of_mem _ (List.mem_filter.mpr ⟨gm_pairs_mem.mpr hj, ?_⟩))⟩
    simp [hji, h1]
section GM
variable {Ly : gm_L} {X : gm_X} {cc : ByteArray} {own : String} {Ts : List Cond} {nL ce sl pc : Nat} {L : List (Option Value)} {rest : List Value} {M : gm_M}
theorem go_iconst (hC : CX Ly X cc own Ts nL) {n : Int} {v : Int32} (hdg : decode cc pc = .ok (.iconst n, 1)) (hv : Int32.ofInt n = v) (k : GO Ly X ce sl (pc + 1) L (.int v :: rest) M) : GO Ly X ce sl pc L (rest) M := by
  obtain ⟨p, l, e, R, s, m, args, below, meth, c, ⟨D, cy, ad⟩, A, Q⟩ := X
  obtain ⟨hx, hb, hml, hown, hts, hK, hI, hAd, hA, hlk⟩ := hC
  intro H locs ls hP hS hl
  exact lv_iconst hx hb hdg hv (k H locs ls hP hS hl)
theorem go_bipush (hC : CX Ly X cc own Ts nL) {n : Int} {v : Int32} (hdg : decode cc pc = .ok (.bipush n, 2)) (hv : (Int8.ofInt n).toInt32 = v) (k : GO Ly X ce sl (pc + 2) L (.int v :: rest) M) : GO Ly X ce sl pc L (rest) M := by
  obtain ⟨p, l, e, R, s, m, args, below, meth, c, ⟨D, cy, ad⟩, A, Q⟩ := X
  obtain ⟨hx, hb, hml, hown, hts, hK, hI, hAd, hA, hlk⟩ := hC
  intro H locs ls hP hS hl
  exact lv_bipush hx hb hdg hv (k H locs ls hP hS hl)
theorem go_sipush (hC : CX Ly X cc own Ts nL) {n : Int} {v : Int32} (hdg : decode cc pc = .ok (.sipush n, 3)) (hv : (Int16.ofInt n).toInt32 = v) (k : GO Ly X ce sl (pc + 3) L (.int v :: rest) M) : GO Ly X ce sl pc L (rest) M := by
  obtain ⟨p, l, e, R, s, m, args, below, meth, c, ⟨D, cy, ad⟩, A, Q⟩ := X
  obtain ⟨hx, hb, hml, hown, hts, hK, hI, hAd, hA, hlk⟩ := hC
  intro H locs ls hP hS hl
  exact lv_sipush hx hb hdg hv (k H locs ls hP hS hl)
theorem go_iadd (hC : CX Ly X cc own Ts nL) {x y : Int32} (hdg : decode cc pc = .ok (.iadd, 1))  (k : GO Ly X ce sl (pc + 1) L (.int (x + y) :: rest) M) : GO Ly X ce sl pc L (.int y :: .int x :: rest) M := by
  obtain ⟨p, l, e, R, s, m, args, below, meth, c, ⟨D, cy, ad⟩, A, Q⟩ := X
  obtain ⟨hx, hb, hml, hown, hts, hK, hI, hAd, hA, hlk⟩ := hC
  intro H locs ls hP hS hl
  exact lv_iadd hx hb hdg  (k H locs ls hP hS hl)
theorem go_isub (hC : CX Ly X cc own Ts nL) {x y : Int32} (hdg : decode cc pc = .ok (.isub, 1))  (k : GO Ly X ce sl (pc + 1) L (.int (x - y) :: rest) M) : GO Ly X ce sl pc L (.int y :: .int x :: rest) M := by
  obtain ⟨p, l, e, R, s, m, args, below, meth, c, ⟨D, cy, ad⟩, A, Q⟩ := X
  obtain ⟨hx, hb, hml, hown, hts, hK, hI, hAd, hA, hlk⟩ := hC
  intro H locs ls hP hS hl
  exact lv_isub hx hb hdg  (k H locs ls hP hS hl)
theorem go_imul (hC : CX Ly X cc own Ts nL) {x y : Int32} (hdg : decode cc pc = .ok (.imul, 1))  (k : GO Ly X ce sl (pc + 1) L (.int (x * y) :: rest) M) : GO Ly X ce sl pc L (.int y :: .int x :: rest) M := by
  obtain ⟨p, l, e, R, s, m, args, below, meth, c, ⟨D, cy, ad⟩, A, Q⟩ := X
  obtain ⟨hx, hb, hml, hown, hts, hK, hI, hAd, hA, hlk⟩ := hC
  intro H locs ls hP hS hl
  exact lv_imul hx hb hdg  (k H locs ls hP hS hl)
theorem go_iand (hC : CX Ly X cc own Ts nL) {x y : Int32} (hdg : decode cc pc = .ok (.iand, 1))  (k : GO Ly X ce sl (pc + 1) L (.int (x &&& y) :: rest) M) : GO Ly X ce sl pc L (.int y :: .int x :: rest) M := by
  obtain ⟨p, l, e, R, s, m, args, below, meth, c, ⟨D, cy, ad⟩, A, Q⟩ := X
  obtain ⟨hx, hb, hml, hown, hts, hK, hI, hAd, hA, hlk⟩ := hC
  intro H locs ls hP hS hl
  exact lv_iand hx hb hdg  (k H locs ls hP hS hl)
theorem go_ior (hC : CX Ly X cc own Ts nL) {x y : Int32} (hdg : decode cc pc = .ok (.ior, 1))  (k : GO Ly X ce sl (pc + 1) L (.int (x ||| y) :: rest) M) : GO Ly X ce sl pc L (.int y :: .int x :: rest) M := by
  obtain ⟨p, l, e, R, s, m, args, below, meth, c, ⟨D, cy, ad⟩, A, Q⟩ := X
  obtain ⟨hx, hb, hml, hown, hts, hK, hI, hAd, hA, hlk⟩ := hC
  intro H locs ls hP hS hl
  exact lv_ior hx hb hdg  (k H locs ls hP hS hl)
theorem go_ixor (hC : CX Ly X cc own Ts nL) {x y : Int32} (hdg : decode cc pc = .ok (.ixor, 1))  (k : GO Ly X ce sl (pc + 1) L (.int (x ^^^ y) :: rest) M) : GO Ly X ce sl pc L (.int y :: .int x :: rest) M := by
  obtain ⟨p, l, e, R, s, m, args, below, meth, c, ⟨D, cy, ad⟩, A, Q⟩ := X
  obtain ⟨hx, hb, hml, hown, hts, hK, hI, hAd, hA, hlk⟩ := hC
  intro H locs ls hP hS hl
  exact lv_ixor hx hb hdg  (k H locs ls hP hS hl)
theorem go_irem (hC : CX Ly X cc own Ts nL) {x y : Int32} (hdg : decode cc pc = .ok (.irem, 1)) (hne : ¬ y = 0) (k : GO Ly X ce sl (pc + 1) L (.int (x - x / y * y) :: rest) M) : GO Ly X ce sl pc L (.int y :: .int x :: rest) M := by
  obtain ⟨p, l, e, R, s, m, args, below, meth, c, ⟨D, cy, ad⟩, A, Q⟩ := X
  obtain ⟨hx, hb, hml, hown, hts, hK, hI, hAd, hA, hlk⟩ := hC
  intro H locs ls hP hS hl
  exact lv_irem hx hb hdg hne (k H locs ls hP hS hl)
theorem go_idiv (hC : CX Ly X cc own Ts nL) {x y : Int32} (hdg : decode cc pc = .ok (.idiv, 1)) (hne : ¬ y = 0) (k : GO Ly X ce sl (pc + 1) L (.int (x / y) :: rest) M) : GO Ly X ce sl pc L (.int y :: .int x :: rest) M := by
  obtain ⟨p, l, e, R, s, m, args, below, meth, c, ⟨D, cy, ad⟩, A, Q⟩ := X
  obtain ⟨hx, hb, hml, hown, hts, hK, hI, hAd, hA, hlk⟩ := hC
  intro H locs ls hP hS hl
  exact lv_idiv hx hb hdg hne (k H locs ls hP hS hl)
theorem go_ishl (hC : CX Ly X cc own Ts nL) {x y : Int32} (hdg : decode cc pc = .ok (.ishl, 1))  (k : GO Ly X ce sl (pc + 1) L (.int (x <<< (y &&& 31)) :: rest) M) : GO Ly X ce sl pc L (.int y :: .int x :: rest) M := by
  obtain ⟨p, l, e, R, s, m, args, below, meth, c, ⟨D, cy, ad⟩, A, Q⟩ := X
  obtain ⟨hx, hb, hml, hown, hts, hK, hI, hAd, hA, hlk⟩ := hC
  intro H locs ls hP hS hl
  exact lv_ishl hx hb hdg  (k H locs ls hP hS hl)
theorem go_ishr (hC : CX Ly X cc own Ts nL) {x y : Int32} (hdg : decode cc pc = .ok (.ishr, 1))  (k : GO Ly X ce sl (pc + 1) L (.int (x >>> (y &&& 31)) :: rest) M) : GO Ly X ce sl pc L (.int y :: .int x :: rest) M := by
  obtain ⟨p, l, e, R, s, m, args, below, meth, c, ⟨D, cy, ad⟩, A, Q⟩ := X
  obtain ⟨hx, hb, hml, hown, hts, hK, hI, hAd, hA, hlk⟩ := hC
  intro H locs ls hP hS hl
  exact lv_ishr hx hb hdg  (k H locs ls hP hS hl)
theorem go_iushr (hC : CX Ly X cc own Ts nL) {x y : Int32} (hdg : decode cc pc = .ok (.iushr, 1))  (k : GO Ly X ce sl (pc + 1) L (.int (x.toUInt32 >>> (y.toUInt32 &&& Int32.toUInt32 31)).toInt32 :: rest) M) : GO Ly X ce sl pc L (.int y :: .int x :: rest) M := by
  obtain ⟨p, l, e, R, s, m, args, below, meth, c, ⟨D, cy, ad⟩, A, Q⟩ := X
  obtain ⟨hx, hb, hml, hown, hts, hK, hI, hAd, hA, hlk⟩ := hC
  intro H locs ls hP hS hl
  exact lv_iushr hx hb hdg rfl (k H locs ls hP hS hl)
theorem go_i2l (hC : CX Ly X cc own Ts nL) {x : Int32} (hdg : decode cc pc = .ok (.i2l, 1))  (k : GO Ly X ce sl (pc + 1) L (.long x.toInt64 :: rest) M) : GO Ly X ce sl pc L (.int x :: rest) M := by
  obtain ⟨p, l, e, R, s, m, args, below, meth, c, ⟨D, cy, ad⟩, A, Q⟩ := X
  obtain ⟨hx, hb, hml, hown, hts, hK, hI, hAd, hA, hlk⟩ := hC
  intro H locs ls hP hS hl
  exact lv_i2l hx hb hdg rfl (k H locs ls hP hS hl)
theorem go_ladd (hC : CX Ly X cc own Ts nL) {x y : Int64} (hdg : decode cc pc = .ok (.ladd, 1))  (k : GO Ly X ce sl (pc + 1) L (.long (x + y) :: rest) M) : GO Ly X ce sl pc L (.long y :: .long x :: rest) M := by
  obtain ⟨p, l, e, R, s, m, args, below, meth, c, ⟨D, cy, ad⟩, A, Q⟩ := X
  obtain ⟨hx, hb, hml, hown, hts, hK, hI, hAd, hA, hlk⟩ := hC
  intro H locs ls hP hS hl
  exact lv_ladd hx hb hdg  (k H locs ls hP hS hl)
theorem go_lcmp (hC : CX Ly X cc own Ts nL) {x y : Int64} (hdg : decode cc pc = .ok (.lcmp, 1))  (k : GO Ly X ce sl (pc + 1) L (.int (lg_cmp x y) :: rest) M) : GO Ly X ce sl pc L (.long y :: .long x :: rest) M := by
  obtain ⟨p, l, e, R, s, m, args, below, meth, c, ⟨D, cy, ad⟩, A, Q⟩ := X
  obtain ⟨hx, hb, hml, hown, hts, hK, hI, hAd, hA, hlk⟩ := hC
  intro H locs ls hP hS hl
  exact W.lcmp hx hb hdg  (k H locs ls hP hS hl)
theorem go_dup (hC : CX Ly X cc own Ts nL) {v : Value} (hdg : decode cc pc = .ok (.dup, 1)) (hv : v.category = 1) (k : GO Ly X ce sl (pc + 1) L (v :: v :: rest) M) : GO Ly X ce sl pc L (v :: rest) M := by
  obtain ⟨p, l, e, R, s, m, args, below, meth, c, ⟨D, cy, ad⟩, A, Q⟩ := X
  obtain ⟨hx, hb, hml, hown, hts, hK, hI, hAd, hA, hlk⟩ := hC
  intro H locs ls hP hS hl
  exact lv_dup hx hb hdg hv (k H locs ls hP hS hl)
theorem go_pop (hC : CX Ly X cc own Ts nL) {v : Value} (hdg : decode cc pc = .ok (.pop, 1)) (hv : v.category = 1) (k : GO Ly X ce sl (pc + 1) L (rest) M) : GO Ly X ce sl pc L (v :: rest) M := by
  obtain ⟨p, l, e, R, s, m, args, below, meth, c, ⟨D, cy, ad⟩, A, Q⟩ := X
  obtain ⟨hx, hb, hml, hown, hts, hK, hI, hAd, hA, hlk⟩ := hC
  intro H locs ls hP hS hl
  exact lv_pop hx hb hdg hv (k H locs ls hP hS hl)
theorem go_dup_x1 (hC : CX Ly X cc own Ts nL) {v v2 : Value} (hdg : decode cc pc = .ok (.dup_x1, 1)) (hv : v.category = 1) (hv2 : v2.category = 1) (k : GO Ly X ce sl (pc + 1) L (v :: v2 :: v :: rest) M) : GO Ly X ce sl pc L (v :: v2 :: rest) M := by
  obtain ⟨p, l, e, R, s, m, args, below, meth, c, ⟨D, cy, ad⟩, A, Q⟩ := X
  obtain ⟨hx, hb, hml, hown, hts, hK, hI, hAd, hA, hlk⟩ := hC
  intro H locs ls hP hS hl
  exact lv_dup_x1 hx hb hdg hv hv2 (k H locs ls hP hS hl)
theorem go_dup_x2 (hC : CX Ly X cc own Ts nL) {v v2 v3 : Value} (hdg : decode cc pc = .ok (.dup_x2, 1)) (hv : v.category = 1) (hv2 : v2.category = 1) (hv3 : v3.category = 1) (k : GO Ly X ce sl (pc + 1) L (v :: v2 :: v3 :: v :: rest) M) : GO Ly X ce sl pc L (v :: v2 :: v3 :: rest) M := by
  obtain ⟨p, l, e, R, s, m, args, below, meth, c, ⟨D, cy, ad⟩, A, Q⟩ := X
  obtain ⟨hx, hb, hml, hown, hts, hK, hI, hAd, hA, hlk⟩ := hC
  intro H locs ls hP hS hl
  exact lv_dup_x2 hx hb hdg hv hv2 hv3 (k H locs ls hP hS hl)
theorem go_dup2 (hC : CX Ly X cc own Ts nL) {v v2 : Value} (hdg : decode cc pc = .ok (.dup2, 1)) (hv : v.category = 1) (hv2 : v2.category = 1) (k : GO Ly X ce sl (pc + 1) L (v :: v2 :: v :: v2 :: rest) M) : GO Ly X ce sl pc L (v :: v2 :: rest) M := by
  obtain ⟨p, l, e, R, s, m, args, below, meth, c, ⟨D, cy, ad⟩, A, Q⟩ := X
  obtain ⟨hx, hb, hml, hown, hts, hK, hI, hAd, hA, hlk⟩ := hC
  intro H locs ls hP hS hl
  exact lv_dup2_11 hx hb hdg hv hv2 (k H locs ls hP hS hl)
theorem go_null (hC : CX Ly X cc own Ts nL)  (hdg : decode cc pc = .ok (.aconst_null, 1))  (k : GO Ly X ce sl (pc + 1) L (.null :: rest) M) : GO Ly X ce sl pc L (rest) M := by
  obtain ⟨p, l, e, R, s, m, args, below, meth, c, ⟨D, cy, ad⟩, A, Q⟩ := X
  obtain ⟨hx, hb, hml, hown, hts, hK, hI, hAd, hA, hlk⟩ := hC
  intro H locs ls hP hS hl
  exact lv_null hx hb hdg  (k H locs ls hP hS hl)
theorem go_iload_n (hC : CX Ly X cc own Ts nL) {j : Fin 4} {x : Int32} (hdg : decode cc pc = .ok (.iload_n j, 1)) (hL : L[j.val]? = some (some (.int x))) (k : GO Ly X ce sl (pc + 1) L (.int x :: rest) M) : GO Ly X ce sl pc L rest M := by
  obtain ⟨p, l, e, R, s, m, args, below, meth, c, ⟨D, cy, ad⟩, A, Q⟩ := X
  obtain ⟨hx, hb, hml, hown, hts, hK, hI, hAd, hA, hlk⟩ := hC
  intro H locs ls hP hS hl
  exact lv_iload_n hx hb hdg rfl (hl.2.2 _ _ hL).2 (k H locs ls hP hS hl)
theorem go_iload (hC : CX Ly X cc own Ts nL) {j : Nat} {x : Int32} (hdg : decode cc pc = .ok (.iload j, 2)) (hL : L[j]? = some (some (.int x))) (k : GO Ly X ce sl (pc + 2) L (.int x :: rest) M) : GO Ly X ce sl pc L rest M := by
  obtain ⟨p, l, e, R, s, m, args, below, meth, c, ⟨D, cy, ad⟩, A, Q⟩ := X
  obtain ⟨hx, hb, hml, hown, hts, hK, hI, hAd, hA, hlk⟩ := hC
  intro H locs ls hP hS hl
  exact lv_iload hx hb hdg (hl.2.2 _ _ hL).2 (k H locs ls hP hS hl)
theorem go_istore_n (hC : CX Ly X cc own Ts nL) {j : Fin 4} {x : Int32} (i : Nat) (hdg : decode cc pc = .ok (.istore_n j, 1)) (hi : j.val = i) (hj : i < L.length) (k : GO Ly X ce sl (pc + 1) (L.set i (some (.int x))) rest M) : GO Ly X ce sl pc L (.int x :: rest) M := by
  subst hi
  obtain ⟨p, l, e, R, s, m, args, below, meth, c, ⟨D, cy, ad⟩, A, Q⟩ := X
  obtain ⟨hx, hb, hml, hown, hts, hK, hI, hAd, hA, hlk⟩ := hC
  intro H locs ls hP hS hl
  exact lv_istore_n hx hb hdg rfl hl.has hj rfl (fun ls' h' => k H locs ls' hP hS (hl.store rfl h'))
theorem go_istore (hC : CX Ly X cc own Ts nL) {j : Nat} {x : Int32} (hdg : decode cc pc = .ok (.istore j, 2)) (hj : j < L.length) (k : GO Ly X ce sl (pc + 2) (L.set j (some (.int x))) rest M) : GO Ly X ce sl pc L (.int x :: rest) M := by
  obtain ⟨p, l, e, R, s, m, args, below, meth, c, ⟨D, cy, ad⟩, A, Q⟩ := X
  obtain ⟨hx, hb, hml, hown, hts, hK, hI, hAd, hA, hlk⟩ := hC
  intro H locs ls hP hS hl
  exact lv_istore hx hb hdg hl.has hj rfl (fun ls' h' => k H locs ls' hP hS (hl.store rfl h'))
theorem go_aload_n (hC : CX Ly X cc own Ts nL) {j : Fin 4} {x : Nat} (hdg : decode cc pc = .ok (.aload_n j, 1)) (hL : L[j.val]? = some (some (.ref x))) (k : GO Ly X ce sl (pc + 1) L (.ref x :: rest) M) : GO Ly X ce sl pc L rest M := by
  obtain ⟨p, l, e, R, s, m, args, below, meth, c, ⟨D, cy, ad⟩, A, Q⟩ := X
  obtain ⟨hx, hb, hml, hown, hts, hK, hI, hAd, hA, hlk⟩ := hC
  intro H locs ls hP hS hl
  exact lv_aload_n hx hb hdg rfl (hl.2.2 _ _ hL).2 (k H locs ls hP hS hl)
theorem go_aload (hC : CX Ly X cc own Ts nL) {j : Nat} {x : Nat} (hdg : decode cc pc = .ok (.aload j, 2)) (hL : L[j]? = some (some (.ref x))) (k : GO Ly X ce sl (pc + 2) L (.ref x :: rest) M) : GO Ly X ce sl pc L rest M := by
  obtain ⟨p, l, e, R, s, m, args, below, meth, c, ⟨D, cy, ad⟩, A, Q⟩ := X
  obtain ⟨hx, hb, hml, hown, hts, hK, hI, hAd, hA, hlk⟩ := hC
  intro H locs ls hP hS hl
  exact lv_aload hx hb hdg (hl.2.2 _ _ hL).2 (k H locs ls hP hS hl)
theorem go_astore_n (hC : CX Ly X cc own Ts nL) {j : Fin 4} {x : Nat} (i : Nat) (hdg : decode cc pc = .ok (.astore_n j, 1)) (hi : j.val = i) (hj : i < L.length) (k : GO Ly X ce sl (pc + 1) (L.set i (some (.ref x))) rest M) : GO Ly X ce sl pc L (.ref x :: rest) M := by
  subst hi
  obtain ⟨p, l, e, R, s, m, args, below, meth, c, ⟨D, cy, ad⟩, A, Q⟩ := X
  obtain ⟨hx, hb, hml, hown, hts, hK, hI, hAd, hA, hlk⟩ := hC
  intro H locs ls hP hS hl
  exact lv_astore_n hx hb hdg rfl hl.has hj rfl (fun ls' h' => k H locs ls' hP hS (hl.store rfl h'))
theorem go_astore (hC : CX Ly X cc own Ts nL) {j : Nat} {x : Nat} (hdg : decode cc pc = .ok (.astore j, 2)) (hj : j < L.length) (k : GO Ly X ce sl (pc + 2) (L.set j (some (.ref x))) rest M) : GO Ly X ce sl pc L (.ref x :: rest) M := by
  obtain ⟨p, l, e, R, s, m, args, below, meth, c, ⟨D, cy, ad⟩, A, Q⟩ := X
  obtain ⟨hx, hb, hml, hown, hts, hK, hI, hAd, hA, hlk⟩ := hC
  intro H locs ls hP hS hl
  exact lv_astore hx hb hdg hl.has hj rfl (fun ls' h' => k H locs ls' hP hS (hl.store rfl h'))
theorem go_iinc (hC : CX Ly X cc own Ts nL) {j : Nat} {n : Int} {x v : Int32} (hdg : decode cc pc = .ok (.iinc j n, 3)) (hL : L[j]? = some (some (.int x))) (hv : Int32.ofInt n = v) (k : GO Ly X ce sl (pc + 3) (L.set j (some (.int (x + v)))) rest M) : GO Ly X ce sl pc L rest M := by
  subst hv
  obtain ⟨p, l, e, R, s, m, args, below, meth, c, ⟨D, cy, ad⟩, A, Q⟩ := X
  obtain ⟨hx, hb, hml, hown, hts, hK, hI, hAd, hA, hlk⟩ := hC
  intro H locs ls hP hS hl
  obtain ⟨i0, hi0⟩ := List.getElem?_of_mem (gm_pairs_mem.mpr hL)
  exact lv_iinc hx hb hdg hl.has hi0 rfl (List.getElem?_eq_some_iff.mp hL).1 rfl (fun ls' h' => k H locs ls' hP hS (hl.store rfl h'))
theorem go_if_eq (hC : CX Ly X cc own Ts nL) {x : Int32} {off : Int} (tgt : Nat) (hdg : decode cc pc = .ok (.ifCond .eq off, 3)) (ht : (pc : Int) + off = (tgt : Int)) (kt : x = 0 → GO Ly X ce sl tgt L rest M) (kf : ¬ (x = 0) → GO Ly X ce sl (pc + 3) L rest M) : GO Ly X ce sl pc L (.int x :: rest) M := by
  obtain ⟨p, l, e, R, s, m, args, below, meth, c, ⟨D, cy, ad⟩, A, Q⟩ := X
  obtain ⟨hx, hb, hml, hown, hts, hK, hI, hAd, hA, hlk⟩ := hC
  intro H locs ls hP hS hl
  exact lv_if_eq hx hb hdg ht (fun h => kt h H locs ls hP hS hl) (fun h => kf h H locs ls hP hS hl)
theorem go_icmp_eq (hC : CX Ly X cc own Ts nL) {x y : Int32} {off : Int} (tgt : Nat) (hdg : decode cc pc = .ok (.if_icmp .eq off, 3)) (ht : (pc : Int) + off = (tgt : Int)) (kt : x = y → GO Ly X ce sl tgt L rest M) (kf : ¬ (x = y) → GO Ly X ce sl (pc + 3) L rest M) : GO Ly X ce sl pc L (.int y :: .int x :: rest) M := by
  obtain ⟨p, l, e, R, s, m, args, below, meth, c, ⟨D, cy, ad⟩, A, Q⟩ := X
  obtain ⟨hx, hb, hml, hown, hts, hK, hI, hAd, hA, hlk⟩ := hC
  intro H locs ls hP hS hl
  exact lv_icmp_eq hx hb hdg ht (fun h => kt h H locs ls hP hS hl) (fun h => kf h H locs ls hP hS hl)
theorem go_if_ne (hC : CX Ly X cc own Ts nL) {x : Int32} {off : Int} (tgt : Nat) (hdg : decode cc pc = .ok (.ifCond .ne off, 3)) (ht : (pc : Int) + off = (tgt : Int)) (kt : ¬ x = 0 → GO Ly X ce sl tgt L rest M) (kf : x = 0 → GO Ly X ce sl (pc + 3) L rest M) : GO Ly X ce sl pc L (.int x :: rest) M := by
  obtain ⟨p, l, e, R, s, m, args, below, meth, c, ⟨D, cy, ad⟩, A, Q⟩ := X
  obtain ⟨hx, hb, hml, hown, hts, hK, hI, hAd, hA, hlk⟩ := hC
  intro H locs ls hP hS hl
  exact lv_if_ne hx hb hdg ht (fun h => kt h H locs ls hP hS hl) (fun h => kf h H locs ls hP hS hl)
theorem go_icmp_ne (hC : CX Ly X cc own Ts nL) {x y : Int32} {off : Int} (tgt : Nat) (hdg : decode cc pc = .ok (.if_icmp .ne off, 3)) (ht : (pc : Int) + off = (tgt : Int)) (kt : ¬ x = y → GO Ly X ce sl tgt L rest M) (kf : x = y → GO Ly X ce sl (pc + 3) L rest M) : GO Ly X ce sl pc L (.int y :: .int x :: rest) M := by
  obtain ⟨p, l, e, R, s, m, args, below, meth, c, ⟨D, cy, ad⟩, A, Q⟩ := X
  obtain ⟨hx, hb, hml, hown, hts, hK, hI, hAd, hA, hlk⟩ := hC
  intro H locs ls hP hS hl
  exact lv_icmp_ne hx hb hdg ht (fun h => kt h H locs ls hP hS hl) (fun h => kf h H locs ls hP hS hl)
theorem go_if_lt (hC : CX Ly X cc own Ts nL) {x : Int32} {off : Int} (tgt : Nat) (hdg : decode cc pc = .ok (.ifCond .lt off, 3)) (ht : (pc : Int) + off = (tgt : Int)) (kt : x < 0 → GO Ly X ce sl tgt L rest M) (kf : ¬ (x < 0) → GO Ly X ce sl (pc + 3) L rest M) : GO Ly X ce sl pc L (.int x :: rest) M := by
  obtain ⟨p, l, e, R, s, m, args, below, meth, c, ⟨D, cy, ad⟩, A, Q⟩ := X
  obtain ⟨hx, hb, hml, hown, hts, hK, hI, hAd, hA, hlk⟩ := hC
  intro H locs ls hP hS hl
  exact lv_if_lt hx hb hdg ht (fun h => kt h H locs ls hP hS hl) (fun h => kf h H locs ls hP hS hl)
theorem go_icmp_lt (hC : CX Ly X cc own Ts nL) {x y : Int32} {off : Int} (tgt : Nat) (hdg : decode cc pc = .ok (.if_icmp .lt off, 3)) (ht : (pc : Int) + off = (tgt : Int)) (kt : x < y → GO Ly X ce sl tgt L rest M) (kf : ¬ (x < y) → GO Ly X ce sl (pc + 3) L rest M) : GO Ly X ce sl pc L (.int y :: .int x :: rest) M := by
  obtain ⟨p, l, e, R, s, m, args, below, meth, c, ⟨D, cy, ad⟩, A, Q⟩ := X
  obtain ⟨hx, hb, hml, hown, hts, hK, hI, hAd, hA, hlk⟩ := hC
  intro H locs ls hP hS hl
  exact lv_icmp_lt hx hb hdg ht (fun h => kt h H locs ls hP hS hl) (fun h => kf h H locs ls hP hS hl)
theorem go_if_ge (hC : CX Ly X cc own Ts nL) {x : Int32} {off : Int} (tgt : Nat) (hdg : decode cc pc = .ok (.ifCond .ge off, 3)) (ht : (pc : Int) + off = (tgt : Int)) (kt : 0 ≤ x → GO Ly X ce sl tgt L rest M) (kf : ¬ (0 ≤ x) → GO Ly X ce sl (pc + 3) L rest M) : GO Ly X ce sl pc L (.int x :: rest) M := by
  obtain ⟨p, l, e, R, s, m, args, below, meth, c, ⟨D, cy, ad⟩, A, Q⟩ := X
  obtain ⟨hx, hb, hml, hown, hts, hK, hI, hAd, hA, hlk⟩ := hC
  intro H locs ls hP hS hl
  exact lv_if_ge hx hb hdg ht (fun h => kt h H locs ls hP hS hl) (fun h => kf h H locs ls hP hS hl)
theorem go_icmp_ge (hC : CX Ly X cc own Ts nL) {x y : Int32} {off : Int} (tgt : Nat) (hdg : decode cc pc = .ok (.if_icmp .ge off, 3)) (ht : (pc : Int) + off = (tgt : Int)) (kt : y ≤ x → GO Ly X ce sl tgt L rest M) (kf : ¬ (y ≤ x) → GO Ly X ce sl (pc + 3) L rest M) : GO Ly X ce sl pc L (.int y :: .int x :: rest) M := by
  obtain ⟨p, l, e, R, s, m, args, below, meth, c, ⟨D, cy, ad⟩, A, Q⟩ := X
  obtain ⟨hx, hb, hml, hown, hts, hK, hI, hAd, hA, hlk⟩ := hC
  intro H locs ls hP hS hl
  exact lv_icmp_ge hx hb hdg ht (fun h => kt h H locs ls hP hS hl) (fun h => kf h H locs ls hP hS hl)
theorem go_if_gt (hC : CX Ly X cc own Ts nL) {x : Int32} {off : Int} (tgt : Nat) (hdg : decode cc pc = .ok (.ifCond .gt off, 3)) (ht : (pc : Int) + off = (tgt : Int)) (kt : 0 < x → GO Ly X ce sl tgt L rest M) (kf : ¬ (0 < x) → GO Ly X ce sl (pc + 3) L rest M) : GO Ly X ce sl pc L (.int x :: rest) M := by
  obtain ⟨p, l, e, R, s, m, args, below, meth, c, ⟨D, cy, ad⟩, A, Q⟩ := X
  obtain ⟨hx, hb, hml, hown, hts, hK, hI, hAd, hA, hlk⟩ := hC
  intro H locs ls hP hS hl
  exact lv_if_gt hx hb hdg ht (fun h => kt h H locs ls hP hS hl) (fun h => kf h H locs ls hP hS hl)
theorem go_icmp_gt (hC : CX Ly X cc own Ts nL) {x y : Int32} {off : Int} (tgt : Nat) (hdg : decode cc pc = .ok (.if_icmp .gt off, 3)) (ht : (pc : Int) + off = (tgt : Int)) (kt : y < x → GO Ly X ce sl tgt L rest M) (kf : ¬ (y < x) → GO Ly X ce sl (pc + 3) L rest M) : GO Ly X ce sl pc L (.int y :: .int x :: rest) M := by
  obtain ⟨p, l, e, R, s, m, args, below, meth, c, ⟨D, cy, ad⟩, A, Q⟩ := X
  obtain ⟨hx, hb, hml, hown, hts, hK, hI, hAd, hA, hlk⟩ := hC
  intro H locs ls hP hS hl
  exact lv_icmp_gt hx hb hdg ht (fun h => kt h H locs ls hP hS hl) (fun h => kf h H locs ls hP hS hl)
theorem go_if_le (hC : CX Ly X cc own Ts nL) {x : Int32} {off : Int} (tgt : Nat) (hdg : decode cc pc = .ok (.ifCond .le off, 3)) (ht : (pc : Int) + off = (tgt : Int)) (kt : x ≤ 0 → GO Ly X ce sl tgt L rest M) (kf : ¬ (x ≤ 0) → GO Ly X ce sl (pc + 3) L rest M) : GO Ly X ce sl pc L (.int x :: rest) M := by
  obtain ⟨p, l, e, R, s, m, args, below, meth, c, ⟨D, cy, ad⟩, A, Q⟩ := X
  obtain ⟨hx, hb, hml, hown, hts, hK, hI, hAd, hA, hlk⟩ := hC
  intro H locs ls hP hS hl
  exact lv_if_le hx hb hdg ht (fun h => kt h H locs ls hP hS hl) (fun h => kf h H locs ls hP hS hl)
theorem go_icmp_le (hC : CX Ly X cc own Ts nL) {x y : Int32} {off : Int} (tgt : Nat) (hdg : decode cc pc = .ok (.if_icmp .le off, 3)) (ht : (pc : Int) + off = (tgt : Int)) (kt : x ≤ y → GO Ly X ce sl tgt L rest M) (kf : ¬ (x ≤ y) → GO Ly X ce sl (pc + 3) L rest M) : GO Ly X ce sl pc L (.int y :: .int x :: rest) M := by
  obtain ⟨p, l, e, R, s, m, args, below, meth, c, ⟨D, cy, ad⟩, A, Q⟩ := X
  obtain ⟨hx, hb, hml, hown, hts, hK, hI, hAd, hA, hlk⟩ := hC
  intro H locs ls hP hS hl
  exact lv_icmp_le hx hb hdg ht (fun h => kt h H locs ls hP hS hl) (fun h => kf h H locs ls hP hS hl)
theorem go_goto (hC : CX Ly X cc own Ts nL) {off : Int} (tgt : Nat) (hdg : decode cc pc = .ok (.goto off, 3)) (ht : (pc : Int) + off = (tgt : Int)) (k : GO Ly X ce sl tgt L rest M) : GO Ly X ce sl pc L rest M := by
  obtain ⟨p, l, e, R, s, m, args, below, meth, c, ⟨D, cy, ad⟩, A, Q⟩ := X
  obtain ⟨hx, hb, hml, hown, hts, hK, hI, hAd, hA, hlk⟩ := hC
  intro H locs ls hP hS hl
  exact lv_goto hx hb hdg ht (k H locs ls hP hS hl)
theorem go_ldc (hC : CX Ly X cc own Ts nL) {index : Nat} {v : Int32} (hc : Cond.constant own index v ∈ Ts) (hdg : decode cc pc = .ok (.ldc index, 2)) (k : GO Ly X ce sl (pc + 2) L (.int v :: rest) M) : GO Ly X ce sl pc L rest M := by
  obtain ⟨p, l, e, R, s, m, args, below, meth, c, ⟨D, cy, ad⟩, A, Q⟩ := X
  obtain ⟨hx, hb, hml, hown, hts, hK, hI, hAd, hA, hlk⟩ := hC
  intro H locs ls hP hS hl
  exact lv_ldc hx hb hown (hts _ hc) hdg (k H locs ls hP hS hl)
theorem go_ldcw (hC : CX Ly X cc own Ts nL) {index : Nat} {v : Int32} (hc : Cond.constant own index v ∈ Ts) (hdg : decode cc pc = .ok (.ldc_w index, 3)) (k : GO Ly X ce sl (pc + 3) L (.int v :: rest) M) : GO Ly X ce sl pc L rest M := by
  obtain ⟨p, l, e, R, s, m, args, below, meth, c, ⟨D, cy, ad⟩, A, Q⟩ := X
  obtain ⟨hx, hb, hml, hown, hts, hK, hI, hAd, hA, hlk⟩ := hC
  intro H locs ls hP hS hl
  exact lv_ldcw hx hb hown (hts _ hc) hdg (k H locs ls hP hS hl)
theorem go_tabOut (hC : CX Ly X cc own Ts nL) {dflt lo hi : Int} {offs : Array Int} {len : Nat} {x : Int32} (tgt : Nat) (hdg : decode cc pc = .ok (.tableswitch dflt lo hi offs, len)) (h : x.toInt < lo ∨ hi < x.toInt) (ht : (pc : Int) + dflt = (tgt : Int)) (k : GO Ly X ce sl tgt L rest M) : GO Ly X ce sl pc L (.int x :: rest) M := by
  obtain ⟨p, l, e, R, s, m, args, below, meth, c, ⟨D, cy, ad⟩, A, Q⟩ := X
  obtain ⟨hx, hb, hml, hown, hts, hK, hI, hAd, hA, hlk⟩ := hC
  intro H locs ls hP hS hl
  exact lv_tableOut hx hb hdg h ht (k H locs ls hP hS hl)
theorem go_tabIn (hC : CX Ly X cc own Ts nL) {dflt lo hi : Int} {offs : Array Int} {len : Nat} {x : Int32} {off : Int} (tgt : Nat) (hdg : decode cc pc = .ok (.tableswitch dflt lo hi offs, len)) (h1 : ¬ x.toInt < lo) (h2 : ¬ hi < x.toInt) (ho : offs[(x.toInt - lo).toNat]? = some off) (ht : (pc : Int) + off = (tgt : Int)) (k : GO Ly X ce sl tgt L rest M) : GO Ly X ce sl pc L (.int x :: rest) M := by
  obtain ⟨p, l, e, R, s, m, args, below, meth, c, ⟨D, cy, ad⟩, A, Q⟩ := X
  obtain ⟨hx, hb, hml, hown, hts, hK, hI, hAd, hA, hlk⟩ := hC
  intro H locs ls hP hS hl
  exact lv_tableIn hx hb hdg h1 h2 ho ht (k H locs ls hP hS hl)
theorem gm_at_o {Ly : gm_L} {cy : Nat → ClassId} {ad : Nat → Nat → Nat} {M : gm_M} {k n ci N : Nat} {sr : Nat → Option Nat} (hk : (Ly k).2 = .inl (ci, N, sr)) : gm_cell Ly cy ad M k n = .inr (ci, (List.range N).map (gm_f sr ad M k n)) := by
  unfold gm_cell
  rw [hk]
theorem gm_at_i {Ly : gm_L} {cy : Nat → ClassId} {ad : Nat → Nat → Nat} {M : gm_M} {k n t len : Nat} (hk : (Ly k).2 = .inr (.inl (t, len))) : gm_cell Ly cy ad M k n = .inl (cy t, len, .inl (fun j => M k j n)) := by
  unfold gm_cell
  rw [hk]
theorem gm_at_r {Ly : gm_L} {cy : Nat → ClassId} {ad : Nat → Nat → Nat} {M : gm_M} {k n k' mu len t : Nat} (hk : (Ly k).2 = .inr (.inr (k', mu, len, t))) : gm_cell Ly cy ad M k n = .inl (cy t, len, .inr (.inr (.inr (.inr (fun j => some (ad k' (mu * n + j))))))) := by
  unfold gm_cell
  rw [hk]
theorem go_geti (hC : CX Ly X cc own Ts nL) {k n ci N index : Nat} {C : String} {T : u_T} {sr : Nat → Option Nat} (f : Nat) (hin : ∀ w ∈ u_ws C T N, w ∈ Ts) (hc : vwCl[ci]? = some (C, T, N)) (hk : (Ly k).2 = .inl (ci, N, sr)) (hf : f < N) (hs : sr f = none) (hlink : Cond.fieldLink own index (T f).1 (T f).2.1 (T f).2.2.1 ∈ Ts) (hn : n < (Ly k).1) (hdg : decode cc pc = .ok (.getfield index, 3)) (kk : GO Ly X ce sl (pc + 3) L (.int (M k f n) :: rest) M) : GO Ly X ce sl pc L (.ref (gm_ad X k n) :: rest) M := by
  obtain ⟨p, l, e, R, s, m, args, below, meth, c, ⟨D, cy, ad⟩, A, Q⟩ := X
  obtain ⟨hx, hb, hml, hown, hts, hK, hI, hAd, hA, hlk⟩ := hC
  intro H locs ls hP hS hl
  have h1 := hP k n hn
  rw [gm_at_o hk] at h1
  exact va_get (v := .int (M k f n)) hx hb hts hin hown hK (gm_one h1) 0 rfl hc f hf (hts _ hlink) (fun _ h9 => h9) (by rw [List.getElem?_map, List.getElem?_range hf]; simp [gm_f, hs]) hdg (kk H locs ls hP hS hl)
theorem go_getr (hC : CX Ly X cc own Ts nL) {k n ci N index : Nat} {C : String} {T : u_T} {sr : Nat → Option Nat} {k' : Nat} (f : Nat) (hin : ∀ w ∈ u_ws C T N, w ∈ Ts) (hc : vwCl[ci]? = some (C, T, N)) (hk : (Ly k).2 = .inl (ci, N, sr)) (hf : f < N) (hs : sr f = some k') (hlink : Cond.fieldLink own index (T f).1 (T f).2.1 (T f).2.2.1 ∈ Ts) (hn : n < (Ly k).1) (hdg : decode cc pc = .ok (.getfield index, 3)) (kk : GO Ly X ce sl (pc + 3) L (.ref (gm_ad X k' n) :: rest) M) : GO Ly X ce sl pc L (.ref (gm_ad X k n) :: rest) M := by
  obtain ⟨p, l, e, R, s, m, args, below, meth, c, ⟨D, cy, ad⟩, A, Q⟩ := X
  obtain ⟨hx, hb, hml, hown, hts, hK, hI, hAd, hA, hlk⟩ := hC
  intro H locs ls hP hS hl
  have h1 := hP k n hn
  rw [gm_at_o hk] at h1
  exact va_get (v := .ref (ad k' n)) hx hb hts hin hown hK (gm_one h1) 0 rfl hc f hf (hts _ hlink) (fun _ h9 => h9) (by rw [List.getElem?_map, List.getElem?_range hf]; simp [gm_f, hs]) hdg (kk H locs ls hP hS hl)
theorem gm_putW {p : Program} {l : Launch} {e : Env} {R : Room} {s : State} {m : MethodId} {args : Array Value} {below : List Frame} {meth : Method} {c : Code} {H : Heap} {locs : List Loc} {cells slots : Nat} {Q : State → Prop} {D : va_G} {cl : List vw_C} {a : Nat} {tys : List (ClassId × FieldType)} {ls : Array Slot} (hexec : p.tables.exec = Jvm.exec) (hb : c.code = cc) {ref C : String} {T : u_T} {N ci index : Nat} (hts : ∀ w ∈ Ts, w.before args s = true) (hin : ∀ w ∈ u_ws C T N, w ∈ Ts) (ty0 : Nat → FieldType) (hty : ∀ k, k < N → parseFieldDescriptor (T k).2.2.1 = some (ty0 k)) (hnm : ∀ a, a < N → ∀ b, b < N → a ≠ b → (T a).2.1 ≠ (T b).2.1) (hown : s.vm.findClass own = some m.cls) (hK : va_K D cl tys s) {fs : List Value} (hat : va_at D cl (a, .inr (ci, fs)) H) (hc : cl[ci]? = some (C, T, N)) (k : Nat) (hk : k < N) (hlink : (Cond.fieldLink own index ref (T k).2.1 (T k).2.2.1).before args s = true) (hsame : ∀ x, s.fieldFound? (T k).1 (T k).2.1 (T k).2.2.1 = some x → s.fieldFound? ref (T k).2.1 (T k).2.2.1 = some x) (hfin : (T k).2.2.2 = false) {v : Value} (hn : narrow (ty0 k) v = v) (hfit : fits (ty0 k) v = true) (hl : k < fs.length)
    (hdg : decode cc pc = .ok (.putfield index, 3)) (kk : ∀ (H1 : Heap) (i : Nat), va_at D cl (a, .inr (ci, fs.set k v)) H1 → H1.size = H.size → (∀ q : Nat, q ≠ a → H1[q]? = H[q]?) → W p l e R s m args below meth c H1 (locs ++ [⟨a, i⟩]) cells slots Q (F0 m (pc + 3) ls rest)) : W p l e R s m args below meth c H locs cells slots Q (F0 m pc ls (v :: .ref a :: rest)) := by
  have hap := va_apart (own := own) hts hin ty0 hty hnm hK hc
  obtain ⟨r, h1, cell, q1, q2, q3, q4⟩ := hat
  have hr : r = (C, T, N) := Option.some.inj (h1.symm.trans hc)
  subst hr
  obtain ⟨hS, hfc, kC, hkC, hkind⟩ := hK.1 ci _ hc
  obtain ⟨cf, kf, fi, f, hi, hsl⟩ := hS k hk
  have hlay := hts _ (hin _ (u_in_lay hk))
  unfold u_lay at hlay
  rw [if_neg (by rw [hfin]; decide)] at hlay
  have hst := (u_facts hfc hkC (u_lays hts hin hk) hi).1
  have h6 := u_store hfc hkC hkind hlay hi (hty k hk) hn hfit
  refine W.putK hexec hb (f := f) ⟨hown, hlink, ⟨_, _, _, hsame _ hi⟩, hst⟩ (by rw [q2]; exact h6) q1 q3 (by rw [hsl]; exact k2_hasslot (q4 k hk)) rfl rfl hdg fun H' e1 e2 e3 => ?_
  rw [hsl] at e1 ⊢
  exact kk H' _ ⟨_, hc, t_OB.to (V := updV (vp_V fs) k v) ⟨_, e1, q2, q3, t_set q4 hap hk v⟩ (fun j _ => vp_updV_set hl v j)⟩ e2 e3
theorem go_puti (hC : CX Ly X cc own Ts nL) {k n ci N index : Nat} {C : String} {T : u_T} {sr : Nat → Option Nat} {x : Int32} (f : Nat) (hin : ∀ w ∈ u_ws C T N, w ∈ Ts) (hc : vwCl[ci]? = some (C, T, N)) (ty0 : Nat → FieldType) (hty : ∀ k, k < N → parseFieldDescriptor (T k).2.2.1 = some (ty0 k)) (hnm : ∀ a, a < N → ∀ b, b < N → a ≠ b → (T a).2.1 ≠ (T b).2.1) (hk : (Ly k).2 = .inl (ci, N, sr)) (hf : f < N) (hs : sr f = none) (hlink : Cond.fieldLink own index (T f).1 (T f).2.1 (T f).2.2.1 ∈ Ts) (hn : n < (Ly k).1) (hfin : (T f).2.2.2 = false) (hnar : narrow (ty0 f) (.int x) = .int x) (hfit : fits (ty0 f) (.int x) = true) (hdg : decode cc pc = .ok (.putfield index, 3)) (kk : GO Ly X ce sl (pc + 3) L rest (gm_up M k f n x)) : GO Ly X ce sl pc L (.int x :: .ref (gm_ad X k n) :: rest) M := by
  obtain ⟨p, l, e, R, s, m, args, below, meth, c, ⟨D, cy, ad⟩, A, Q⟩ := X
  obtain ⟨hx, hb, hml, hown, hts, hK, hI, hAd, hA, hlk⟩ := hC
  intro H locs ls hP hS hl
  have h1 := hP k n hn
  rw [gm_at_o hk] at h1
  refine gm_putW hx hb hts hin ty0 hty hnm hown hK h1 hc f hf (hts _ hlink) (fun _ h9 => h9) hfin hnar hfit (by simp; exact hf) hdg (fun H1 i e1 e2 e3 => ?_)
  refine kk H1 _ ls (hP.set hI hn ?_ e3) (hS.put e2 e3 (hAd k n hn)) hl
  rw [gm_at_o hk]
  rw [gm_set (g' := gm_f sr ad (gm_up M k f n x) k n) (by simp [gm_f, hs, gm_up]) (fun j hj => by simp [gm_f, gm_up, hj])] at e1
  exact e1
theorem go_iald (hC : CX Ly X cc own Ts nL) {k n len : Nat} {i : Int32} (hk : (Ly k).2 = .inr (.inl (0, len))) (hn : n < (Ly k).1) {j : Nat} (hin : vp_in i len) (hj : i.toNatClampNeg = j) (hdg : decode cc pc = .ok (.iaload, 1)) (kk : GO Ly X ce sl (pc + 1) L (.int (M k j n) :: rest) M) : GO Ly X ce sl pc L (.int i :: .ref (gm_ad X k n) :: rest) M := by
  subst hj
  obtain ⟨p, l, e, R, s, m, args, below, meth, c, ⟨D, cy, ad⟩, A, Q⟩ := X
  obtain ⟨hx, hb, hml, hown, hts, hK, hI, hAd, hA, hlk⟩ := hC
  intro H locs ls hP hS hl
  have h1 := hP k n hn
  rw [gm_at_i hk] at h1
  exact va_iald hx hb hK (gm_one h1) 0 0 rfl rfl hin hdg (kk H locs ls hP hS hl)
theorem go_zald (hC : CX Ly X cc own Ts nL) {k n len : Nat} {i : Int32} (hk : (Ly k).2 = .inr (.inl (1, len))) (hn : n < (Ly k).1) {j : Nat} (hin : vp_in i len) (hj : i.toNatClampNeg = j) (hdg : decode cc pc = .ok (.baload, 1)) (kk : GO Ly X ce sl (pc + 1) L (.int (M k j n) :: rest) M) : GO Ly X ce sl pc L (.int i :: .ref (gm_ad X k n) :: rest) M := by
  subst hj
  obtain ⟨p, l, e, R, s, m, args, below, meth, c, ⟨D, cy, ad⟩, A, Q⟩ := X
  obtain ⟨hx, hb, hml, hown, hts, hK, hI, hAd, hA, hlk⟩ := hC
  intro H locs ls hP hS hl
  have h1 := hP k n hn
  rw [gm_at_i hk] at h1
  exact va_zald hx hb hK (gm_one h1) 0 1 rfl rfl hin hdg (kk H locs ls hP hS hl)
theorem go_iast (hC : CX Ly X cc own Ts nL) {k n len : Nat} {i x : Int32} (hk : (Ly k).2 = .inr (.inl (0, len))) (hn : n < (Ly k).1) {j : Nat} (hin : vp_in i len) (hj : i.toNatClampNeg = j) (hdg : decode cc pc = .ok (.iastore, 1)) (kk : GO Ly X ce sl (pc + 1) L rest (gm_up M k j n x)) : GO Ly X ce sl pc L (.int x :: .int i :: .ref (gm_ad X k n) :: rest) M := by
  subst hj
  obtain ⟨p, l, e, R, s, m, args, below, meth, c, ⟨D, cy, ad⟩, A, Q⟩ := X
  obtain ⟨hx, hb, hml, hown, hts, hK, hI, hAd, hA, hlk⟩ := hC
  intro H locs ls hP hS hl
  have h1 := hP k n hn
  rw [gm_at_i hk] at h1
  refine W.iast hx hb h1 ((hK.2 0 _ rfl).1 len (fun j => .int (M k j n))) (fun q => by cases q) (by show ¬ (i < 0 ∨ (arrV _ _ _).slots.size ≤ _); rw [arrV_size]; exact hin) rfl rfl hdg fun H1 e1 e2 e3 => ?_
  refine kk H1 _ ls (hP.set hI hn ?_ e3) (hS.put e2 e3 (hAd k n hn)) hl
  rw [gm_at_i hk]
  show H1[ad k n]? = some (vp_cell _ _)
  rw [e1, vp_cell_i, vp_cell_i, arrV_store]
  congr 2
  funext q
  by_cases hq : q = i.toNatClampNeg
  · subst hq
    simp [updV, gm_up, vp_nar]
    try rfl
  · simp [updV, gm_up, hq]
theorem go_zast (hC : CX Ly X cc own Ts nL) {k n len : Nat} {i x : Int32} (hk : (Ly k).2 = .inr (.inl (1, len))) (hn : n < (Ly k).1) {j : Nat} (hin : vp_in i len) (hj : i.toNatClampNeg = j) (hdg : decode cc pc = .ok (.bastore, 1)) (kk : GO Ly X ce sl (pc + 1) L rest (gm_up M k j n (vp_nar .boolean x))) : GO Ly X ce sl pc L (.int x :: .int i :: .ref (gm_ad X k n) :: rest) M := by
  subst hj
  obtain ⟨p, l, e, R, s, m, args, below, meth, c, ⟨D, cy, ad⟩, A, Q⟩ := X
  obtain ⟨hx, hb, hml, hown, hts, hK, hI, hAd, hA, hlk⟩ := hC
  intro H locs ls hP hS hl
  have h1 := hP k n hn
  rw [gm_at_i hk] at h1
  refine W.zast hx hb h1 ((hK.2 1 _ rfl).1 len (fun j => .int (M k j n))) (fun q => by cases q) (by show ¬ (i < 0 ∨ (arrV _ _ _).slots.size ≤ _); rw [arrV_size]; exact hin) rfl rfl hdg fun H1 e1 e2 e3 => ?_
  refine kk H1 _ ls (hP.set hI hn ?_ e3) (hS.put e2 e3 (hAd k n hn)) hl
  rw [gm_at_i hk]
  show H1[ad k n]? = some (vp_cell _ _)
  rw [e1, vp_cell_i, vp_cell_i, arrV_store]
  congr 2
  funext q
  by_cases hq : q = i.toNatClampNeg
  · subst hq
    simp [updV, gm_up, vp_nar]
    try rfl
  · simp [updV, gm_up, hq]
theorem go_aald (hC : CX Ly X cc own Ts nL) {k n k' mu len t : Nat} {i : Int32} {C : String} (hk : (Ly k).2 = .inr (.inr (k', mu, len, t))) (ht : ∀ cy, (gm_ty cy)[t]? = some (cy t, .object C)) (hn : n < (Ly k).1) {j : Nat} (hin : vp_in i len) (hj : mu * n + i.toNatClampNeg = j) (hdg : decode cc pc = .ok (.aaload, 1)) (kk : GO Ly X ce sl (pc + 1) L (.ref (gm_ad X k' j) :: rest) M) : GO Ly X ce sl pc L (.int i :: .ref (gm_ad X k n) :: rest) M := by
  subst hj
  obtain ⟨p, l, e, R, s, m, args, below, meth, c, ⟨D, cy, ad⟩, A, Q⟩ := X
  obtain ⟨hx, hb, hml, hown, hts, hK, hI, hAd, hA, hlk⟩ := hC
  intro H locs ls hP hS hl
  have h1 := hP k n hn
  rw [gm_at_r hk] at h1
  exact va_aldq hx hb hK (gm_one h1) 0 t rfl (ht cy) hin hdg (kk H locs ls hP hS hl)
theorem go_alenr (hC : CX Ly X cc own Ts nL) {k n k' mu len t : Nat} {v : Int32} {C : String} (hk : (Ly k).2 = .inr (.inr (k', mu, len, t))) (ht : ∀ cy, (gm_ty cy)[t]? = some (cy t, .object C)) (hn : n < (Ly k).1) (hv : Int32.ofNat len = v) (hdg : decode cc pc = .ok (.arraylength, 1)) (kk : GO Ly X ce sl (pc + 1) L (.int v :: rest) M) : GO Ly X ce sl pc L (.ref (gm_ad X k n) :: rest) M := by
  obtain ⟨p, l, e, R, s, m, args, below, meth, c, ⟨D, cy, ad⟩, A, Q⟩ := X
  obtain ⟨hx, hb, hml, hown, hts, hK, hI, hAd, hA, hlk⟩ := hC
  intro H locs ls hP hS hl
  have h1 := hP k n hn
  rw [gm_at_r hk] at h1
  exact va_alen hx hb hK (gm_one h1) 0 t rfl (ht cy) hv hdg (kk H locs ls hP hS hl)
theorem go_widen {c2 s2 : Nat} {st : List Value} (h1 : ce ≤ c2) (h2 : sl ≤ s2) (k : GO Ly X c2 s2 pc L st M) : GO Ly X ce sl pc L st M := by
  obtain ⟨p, l, e, R, s, m, args, below, meth, c, ⟨D, cy, ad⟩, A, Q⟩ := X
  intro H locs ls hP hS hl
  exact W.widen h1 h2 (k H locs ls hP hS hl)
theorem go_mem {M' : gm_M} {st : List Value} (h : M = M') (k : GO Ly X ce sl pc L st M') : GO Ly X ce sl pc L st M := h ▸ k
theorem go_aload_nA (hC : CX Ly X cc own Ts nL) {j : Fin 4} {v : Value} (hv : v = .null ∨ ∃ a, v = .ref a) (hdg : decode cc pc = .ok (.aload_n j, 1)) (hL : L[j.val]? = some (some v)) (k : GO Ly X ce sl (pc + 1) L (v :: rest) M) : GO Ly X ce sl pc L rest M := by
  rcases hv with rfl | ⟨a, rfl⟩
  · obtain ⟨p, l, e, R, s, m, args, below, meth, c, ⟨D, cy, ad⟩, A, Q⟩ := X
    obtain ⟨hx, hb, hml, hown, hts, hK, hI, hAd, hA, hlk⟩ := hC
    intro H locs ls hP hS hl
    exact lv_aload_nN hx hb hdg rfl (hl.2.2 _ _ hL).2 (k H locs ls hP hS hl)
  · exact go_aload_n hC hdg hL k
theorem go_astore_nA (hC : CX Ly X cc own Ts nL) {j : Fin 4} {v : Value} (hv : v = .null ∨ ∃ a, v = .ref a) (i : Nat) (hdg : decode cc pc = .ok (.astore_n j, 1)) (hi : j.val = i) (hj : i < L.length) (k : GO Ly X ce sl (pc + 1) (L.set i (some v)) rest M) : GO Ly X ce sl pc L (v :: rest) M := by
  rcases hv with rfl | ⟨a, rfl⟩
  · subst hi
    obtain ⟨p, l, e, R, s, m, args, below, meth, c, ⟨D, cy, ad⟩, A, Q⟩ := X
    obtain ⟨hx, hb, hml, hown, hts, hK, hI, hAd, hA, hlk⟩ := hC
    intro H locs ls hP hS hl
    exact lv_astore_nN hx hb hdg rfl hl.has hj rfl (fun ls' h' => k H locs ls' hP hS (hl.store rfl h'))
  · exact go_astore_n hC i hdg hi hj k
/-- an object of kind 0, or null -/
def ntV (ad : Nat → Nat → Nat) (o : Option Nat) : Value := match o with
  | none => .null
  | some c => .ref (ad 0 c)
theorem ntV_ok (ad : Nat → Nat → Nat) (o : Option Nat) : ntV ad o = .null ∨ ∃ a, ntV ad o = .ref a := by
  cases o with
  | none => exact Or.inl rfl
  | some c => exact Or.inr ⟨_, rfl⟩
theorem go_ifnull (hC : CX Ly X cc own Ts nL) {o : Option Nat} {off : Int} (tgt : Nat) (hdg : decode cc pc = .ok (.ifnull off, 3)) (ht : (pc : Int) + off = (tgt : Int)) (kn : o = none → GO Ly X ce sl tgt L rest M) (ks : ∀ c, o = some c → GO Ly X ce sl (pc + 3) L rest M) : GO Ly X ce sl pc L (ntV (gm_ad X) o :: rest) M := by
  cases o with
  | none =>
    have k := kn rfl
    obtain ⟨p, l, e, R, s, m, args, below, meth, c, ⟨D, cy, ad⟩, A, Q⟩ := X
    obtain ⟨hx, hb, hml, hown, hts, hK, hI, hAd, hA, hlk⟩ := hC
    intro H locs ls hP hS hl
    exact lv_ifnullN hx hb hdg ht (k H locs ls hP hS hl)
  | some c9 =>
    have k := ks c9 rfl
    obtain ⟨p, l, e, R, s, m, args, below, meth, c, ⟨D, cy, ad⟩, A, Q⟩ := X
    obtain ⟨hx, hb, hml, hown, hts, hK, hI, hAd, hA, hlk⟩ := hC
    intro H locs ls hP hS hl
    exact lv_ifnull hx hb hdg (k H locs ls hP hS hl)
theorem go_ifnonnull (hC : CX Ly X cc own Ts nL) {o : Option Nat} {off : Int} (tgt : Nat) (hdg : decode cc pc = .ok (.ifnonnull off, 3)) (ht : (pc : Int) + off = (tgt : Int)) (ks : ∀ c, o = some c → GO Ly X ce sl tgt L rest M) (kn : o = none → GO Ly X ce sl (pc + 3) L rest M) : GO Ly X ce sl pc L (ntV (gm_ad X) o :: rest) M := by
  cases o with
  | none =>
    have k := kn rfl
    obtain ⟨p, l, e, R, s, m, args, below, meth, c, ⟨D, cy, ad⟩, A, Q⟩ := X
    obtain ⟨hx, hb, hml, hown, hts, hK, hI, hAd, hA, hlk⟩ := hC
    intro H locs ls hP hS hl
    exact lv_ifnonnullN hx hb hdg (k H locs ls hP hS hl)
  | some c9 =>
    have k := ks c9 rfl
    obtain ⟨p, l, e, R, s, m, args, below, meth, c, ⟨D, cy, ad⟩, A, Q⟩ := X
    obtain ⟨hx, hb, hml, hown, hts, hK, hI, hAd, hA, hlk⟩ := hC
    intro H locs ls hP hS hl
    exact lv_ifnonnull hx hb hdg ht (k H locs ls hP hS hl)
theorem go_cast {M' : gm_M} {st st' : List Value} (h1 : st = st') (h2 : M = M') (k : GO Ly X ce sl pc L st' M') : GO Ly X ce sl pc L st M := h1 ▸ h2 ▸ k
theorem go_loc {L' : List (Option Value)} {st : List Value} (h : L = L') (k : GO Ly X ce sl pc L' st M) : GO Ly X ce sl pc L st M := h ▸ k
end GM
