/-! ===== the law's walk ===== -/
def WL (D : va_G) (cy : Nat → ClassId) (x : Nat) (M G : gm_M) (w : Int64) (H : Heap) : Prop := gm_P D lyC cy (adC x) M H ∧ gm_P D lyM cy (adM (x + 47)) G H ∧ va_at D vwCl (x + 78, lE cy w) H
/-- what the law's walk stands on -/
def LX (X : po_X) (D : va_G) (cy : Nat → ClassId) (x b Ln : Nat) (xs : Nat → Int32) : Prop := match X with
  | (p, l, e, R, s, m, args, below, meth, c, A, Q) => l.stackTraces = false ∧ va_K D vwCl (tyL cy) s ∧ NW s ∧ SBH A s s.heap ∧ NCs s ∧ va_X b Ln xs s s.heap ∧ b < s.heap.size ∧ ¬ A b ∧ (∀ q, x ≤ q → A q) ∧ R = room_1
theorem adC_ne {x k n : Nat} (h : n < (lyC k).1) : adC x k n ≠ x + 78 := fun q => by have := (cdC_ok (x := x) h).2.1; omega
theorem WL.C {D : va_G} {cy : Nat → ClassId} {x : Nat} {M M' G : gm_M} {w : Int64} {H H1 : Heap} (h : WL D cy x M G w H) (hP : gm_P D lyC cy (adC x) M' H1) (hk : ∀ q : Nat, q < H.size → ¬ AW lyC (adC x) H.size q → H1[q]? = H[q]?) : WL D cy x M' G w H1 := by
  have no : ∀ q : Nat, x + 47 ≤ q → q < H.size → ¬ AW lyC (adC x) H.size q := by
    intro q h1 h2 h3
    rcases h3 with ⟨k, n, h4, h5⟩ | h3
    · have := (cdC_ok (x := x) h4).2.1; omega
    · omega
  refine ⟨hP, gm_P.kept h.2.1 (fun k n hn => hk _ (h.2.1 k n hn).lt (no _ (cdM_ok hn).1 (h.2.1 k n hn).lt)), h.2.2.kept (hk _ h.2.2.lt (no _ (by show x + 47 ≤ x + 78; omega) h.2.2.lt))⟩
theorem WL.M {D : va_G} {cy : Nat → ClassId} {x : Nat} {M G G' : gm_M} {w : Int64} {H H1 : Heap} (h : WL D cy x M G w H) (hP : gm_P D lyM cy (adM (x + 47)) G' H1) (hk : ∀ q : Nat, q < H.size → ¬ AW lyM (adM (x + 47)) H.size q → H1[q]? = H[q]?) : WL D cy x M G' w H1 := by
  have no : ∀ q : Nat, (q < x + 47 ∨ x + 78 ≤ q) → q < H.size → ¬ AW lyM (adM (x + 47)) H.size q := by
    intro q h1 h2 h3
    rcases h3 with ⟨k, n, h4, h5⟩ | h3
    · have a1 := (cdM_ok (x := x + 47) h4).1
      have a2 := (cdM_ok (x := x + 47) h4).2.1
      omega
    · omega
  refine ⟨gm_P.kept h.1 (fun k n hn => hk _ (h.1 k n hn).lt (no _ (Or.inl (cdC_ok hn).2.1) (h.1 k n hn).lt)), hP, h.2.2.kept (hk _ h.2.2.lt (no _ (Or.inr (Nat.le_refl _)) h.2.2.lt))⟩
theorem WL.H {D : va_G} {cy : Nat → ClassId} {x : Nat} {M M' G : gm_M} {w w' : Int64} {H H1 : Heap} (h : WL D cy x M G w H) (hP : WH D cy (adC x) (x + 78) M' w' H1) (hk : ∀ q : Nat, q < H.size → ¬ AH (adC x) (x + 78) H.size q → H1[q]? = H[q]?) : WL D cy x M' G w' H1 := by
  have no : ∀ q : Nat, x + 47 ≤ q → q < x + 78 → q < H.size → ¬ AH (adC x) (x + 78) H.size q := by
    intro q h1 h0 h2 h3
    rcases h3 with (⟨k, n, h4, h5⟩ | h3) | h3
    · have := (cdC_ok (x := x) h4).2.1; omega
    · omega
    · omega
  refine ⟨hP.1, gm_P.kept h.2.1 (fun k n hn => hk _ (h.2.1 k n hn).lt (no _ (cdM_ok hn).1 ?_ (h.2.1 k n hn).lt)), hP.2⟩
  have := (cdM_ok (x := x + 47) hn).2.1
  omega
section LW
variable {X : po_X} {D : va_G} {cy : Nat → ClassId} {x b Ln : Nat} {xs : Nat → Int32} {M M' G G' : gm_M} {w : Int64} {cc : ByteArray} {Ts : List Cond} {nL ce sl pc : Nat} {L : List (Option Value)} {rest : List Value}
theorem po_lcallC (hC : CP X cc RL Ts nL) (hL : LX X D cy x b Ln xs) {y : MethodName} {ws ws' : List Cond} {rm : Room} {as : (Nat → Nat → Nat) → List Value} {v : (Nat → Nat → Nat) → Option Value} {bytes : ByteArray} {maxL n index : Nat} {ret : Option FieldType} {As st : List Value}
    (hM : KC lyC y ws rm as M v M') (hG : GoodIn Ts (wsV RL index RX2 y ws)) (hw : ws = Cond.code y bytes maxL ret :: ws') (hd : y.cls = RX2 ∧ y.cls ≠ "java/lang/invoke/MethodHandle" ∧ y.cls ≠ "java/lang/invoke/VarHandle" ∧ (parseMethodDescriptor y.desc).map (fun d => d.parameters.length) = some n) (hcs : rm.cells = 0 ∧ rm.slots = 0) (hR : rm.frames + 1 ≤ 13 ∧ 8 + (maxL + 11) + rm.locals ≤ 490) (hf : ce ≤ 603942 ∧ sl ≤ 7284278) (hLn : L.length = nL)
    (has : as (adC x) = .ref (adC x 2 0) :: As) (hn : As.length = n) (hst : st = As.reverse ++ .ref x :: rest) (hcat : (rest.map fun v => v.category).sum ≤ 8) (hdg : decode cc pc = .ok (.invokevirtual index, 3))
    (kk : PO X (WL D cy x M' G w) ce sl (pc + 3) L ((v (adC x)).toList ++ rest)) : PO X (WL D cy x M G w) ce sl pc L st := by
  obtain ⟨p, l, e, R, s, m, args, below, meth, c, A, Q⟩ := X
  obtain ⟨hx, hb, hml, hown, hts, hA, hlk⟩ := hC
  obtain ⟨hst9, hK, hN, hSB, hNC, hX, hbl, hbA, hAx, rfl⟩ := hL
  intro H locs ls hP hS hl
  have h1 := hP.1 2 0 (by decide)
  rw [gm_at_o (Ly := lyC) (k := 2) rfl] at h1
  have hM' := hM l D cy (adC x) H.size (gm_I0C x)
  rw [has] at hM'
  have hAi : ∀ q : Nat, AW lyC (adC x) H.size q → A q := AW.in (fun k n h => hAx _ (cdC_ok h).1) hA hS
  have hr := va_runV (As := As) (rest := rest) (g := F0 m pc ls st) (l := l) (e := e) (R := room_1) (below := below) (meth := meth) (locs := locs) (cells := ce) (slots := sl) ⟨hx, hb, hml, hown, hts⟩ hM' (cwV n hts hG hw hcs.1 hcs.2 hd hR) ⟨PW.blind, va_recv hK (gm_one h1) (ci := 2) (q0 := 0) rfl rfl, gm_pre hP.1 (tyL_K hK) hN⟩ rfl hn (hl.1.trans hLn) hst (lv_room hcat) hdg hf
  intro T hT XX
  obtain ⟨v2, st₀, t, T', L', h0, X', hL', e1, e2, ⟨⟨hv, hPB⟩, hF⟩, go⟩ := hr T hT XX
  cases hv
  obtain ⟨k1, k2, k3⟩ := vx_keep h0 e1 hS (fun q _ h => hAi q h) hAi hL' hF
  obtain ⟨t2, a1, b1⟩ := kk T'.heap (locs ++ L') ls (hP.C (by rw [e1]; exact hPB) k2) k3 hl T' rfl X'
  exact ⟨t2, go t2 a1, b1⟩
theorem po_lcallM (hC : CP X cc RL Ts nL) (hL : LX X D cy x b Ln xs) {y : MethodName} {ws ws' : List Cond} {rm : Room} {as : (Nat → Nat → Nat) → List Value} {v : (Nat → Nat → Nat) → Option Value} {bytes : ByteArray} {maxL n index : Nat} {ret : Option FieldType} {As st : List Value}
    (hM : KC lyM y ws rm as G v G') (hG : GoodIn Ts (wsV RL index RX3 y ws)) (hw : ws = Cond.code y bytes maxL ret :: ws') (hd : y.cls = RX3 ∧ y.cls ≠ "java/lang/invoke/MethodHandle" ∧ y.cls ≠ "java/lang/invoke/VarHandle" ∧ (parseMethodDescriptor y.desc).map (fun d => d.parameters.length) = some n) (hcs : rm.cells = 0 ∧ rm.slots = 0) (hR : rm.frames + 1 ≤ 13 ∧ 8 + (maxL + 11) + rm.locals ≤ 490) (hf : ce ≤ 603942 ∧ sl ≤ 7284278) (hLn : L.length = nL)
    (has : as (adM (x + 47)) = .ref (adM (x + 47) 0 0) :: As) (hn : As.length = n) (hst : st = As.reverse ++ .ref (x + 47) :: rest) (hcat : (rest.map fun v => v.category).sum ≤ 8) (hdg : decode cc pc = .ok (.invokevirtual index, 3))
    (kk : PO X (WL D cy x M G' w) ce sl (pc + 3) L ((v (adM (x + 47))).toList ++ rest)) : PO X (WL D cy x M G w) ce sl pc L st := by
  obtain ⟨p, l, e, R, s, m, args, below, meth, c, A, Q⟩ := X
  obtain ⟨hx, hb, hml, hown, hts, hA, hlk⟩ := hC
  obtain ⟨hst9, hK, hN, hSB, hNC, hX, hbl, hbA, hAx, rfl⟩ := hL
  intro H locs ls hP hS hl
  have h1 := hP.2.1 0 0 (by decide)
  rw [gm_at_o (Ly := lyM) (k := 0) rfl] at h1
  have hM' := hM l D cy (adM (x + 47)) H.size (gm_I0M (x + 47))
  rw [has] at hM'
  have hAi : ∀ q : Nat, AW lyM (adM (x + 47)) H.size q → A q := AW.in (fun k n h => hAx _ (Nat.le_trans (Nat.le_add_right _ _) (cdM_ok h).1)) hA hS
  have hr := va_runV (As := As) (rest := rest) (g := F0 m pc ls st) (l := l) (e := e) (R := room_1) (below := below) (meth := meth) (locs := locs) (cells := ce) (slots := sl) ⟨hx, hb, hml, hown, hts⟩ hM' (cwV n hts hG hw hcs.1 hcs.2 hd hR) ⟨PW.blind, va_recv hK (gm_one h1) (ci := 3) (q0 := 0) rfl rfl, gm_pre hP.2.1 (tyL_K hK) hN⟩ rfl hn (hl.1.trans hLn) hst (lv_room hcat) hdg hf
  intro T hT XX
  obtain ⟨v2, st₀, t, T', L', h0, X', hL', e1, e2, ⟨⟨hv, hPB⟩, hF⟩, go⟩ := hr T hT XX
  cases hv
  obtain ⟨k1, k2, k3⟩ := vx_keep h0 e1 hS (fun q _ h => hAi q h) hAi hL' hF
  obtain ⟨t2, a1, b1⟩ := kk T'.heap (locs ++ L') ls (hP.M (by rw [e1]; exact hPB) k2) k3 hl T' rfl X'
  exact ⟨t2, go t2 a1, b1⟩
theorem po_lcallH (hC : CP X cc RL Ts nL) (hL : LX X D cy x b Ln xs) {y : MethodName} {ws ws' : List Cond} {rm : Room} {as : (Nat → Nat → Nat) → Nat → List Value} {k : Int32} {wf : Int64 → Int64} {mc ms : Nat} {hh : List (Nat × Nat × Nat × Nat)} {bytes : ByteArray} {maxL n index : Nat} {As st : List Value}
    (hM : KH y ws rm as M k M' wf mc ms) (hG : GoodIn Ts (va_wsS RL index y ws)) (hw : ws = Cond.codeWith y bytes maxL (some .int) hh :: ws') (hd : y.cls ≠ "java/lang/invoke/MethodHandle" ∧ y.cls ≠ "java/lang/invoke/VarHandle" ∧ (parseMethodDescriptor y.desc).map (fun d => d.parameters.length) = some n) (hcs : rm.cells = mc ∧ rm.slots = ms) (hR : rm.frames + 1 ≤ 13 ∧ 8 + (maxL + 11) + rm.locals ≤ 490) (hf : ce + mc ≤ 603942 ∧ sl + ms ≤ 7284278) (hLn : L.length = nL)
    (has : as (adC x) (x + 78) = As) (hn : As.length = n) (hst : st = As.reverse ++ rest) (hcat : (rest.map fun v => v.category).sum ≤ 8) (hdg : decode cc pc = .ok (.invokestatic index, 3))
    (kk : PO X (WL D cy x M' G (wf w)) (ce + mc) (sl + ms) (pc + 3) L (.int k :: rest)) : PO X (WL D cy x M G w) ce sl pc L st := by
  obtain ⟨p, l, e, R, s, m, args, below, meth, c, A, Q⟩ := X
  obtain ⟨hx, hb, hml, hown, hts, hA, hlk⟩ := hC
  obtain ⟨hst9, hK, hN, hSB, hNC, hX, hbl, hbA, hAx, rfl⟩ := hL
  intro H locs ls hP hS hl
  have hM' := hM l hst9 D cy (adC x) (x + 78) H.size w (gm_I0C x) (fun k n h => adC_ne h)
  rw [has] at hM'
  have hAi0 : ∀ q : Nat, AW lyC (adC x) H.size q → A q := AW.in (fun k n h => hAx _ (cdC_ok h).1) hA hS
  have hAi : ∀ q : Nat, AH (adC x) (x + 78) H.size q → A q := fun q h => h.elim (hAi0 q) (fun h => hAx q (by omega))
  have hr := vx_runSX (As := As) (rest := rest) (g := F0 m pc ls st) (l := l) (e := e) (R := room_1) (below := below) (meth := meth) (locs := locs) (cells := ce) (slots := sl) ⟨hx, hb, hml, hown, hts⟩ hM' (vx_cwSW n hts hG hw hcs.1 hcs.2 hd hR) ⟨PH.blind, fun U hU hW => ⟨rfl, by rw [hU], by rw [hU]; exact ⟨hP.1, hP.2.2⟩, va_K.moved hW.alike hK, NW.warm hW hN, hSB.call hS hAi hW hU, NCs.moved hW.alike hNC⟩⟩ rfl hn (hl.1.trans hLn) hst (lv_room hcat) hdg hf
  intro T hT XX9
  rcases hr T hT XX9 with ⟨v2, st₀, t, T', L', h0, X', hL', e1, e2, ⟨⟨hv, hPB⟩, hF⟩, go⟩ | ⟨q, st₀, t, T', L', E, cell, h0, X', hL', e1, e2, hth, hce, hcv, hcl, go⟩
  · cases hv
    obtain ⟨k1, k2, k3⟩ := vx_keep h0 e1 hS (fun q _ h => hAi q h) hAi hL' hF
    obtain ⟨t2, a1, b1⟩ := kk T'.heap (locs ++ L') ls (hP.H (by rw [e1]; exact hPB) k2) k3 hl T' rfl X'
    exact ⟨t2, go t2 a1, b1⟩
  · exact absurd hth id
theorem po_lald (hC : CP X cc RL Ts nL) (hL : LX X D cy x b Ln xs) (hdg : decode cc pc = .ok (.laload, 1)) (k : PO X (WL D cy x M G w) ce sl (pc + 1) L (.long w :: rest)) : PO X (WL D cy x M G w) ce sl pc L (.int 0 :: .ref (x + 78) :: rest) := by
  obtain ⟨p, l, e, R, s, m, args, below, meth, c, A, Q⟩ := X
  obtain ⟨hx, hb, hml, hown, hts, hA, hlk⟩ := hC
  obtain ⟨hst9, hK, hN, hSB, hNC, hX, hbl, hbA, hAx, rfl⟩ := hL
  intro H locs ls hP hS hl
  have hat : va_at D vwCl (x + 78, lE cy w) H := hP.2.2
  exact va_lald (ws := [(x + 78, lE cy w)]) (f := fun _ => w) hx hb hK (gm_one hat) 0 4 rfl rfl (vp_in_nI (n := 0) (by decide) (by decide)) hdg (k H locs ls hP hS hl)
theorem po_sld {P : Heap → Prop} (hC : CP X cc RL Ts nL) (hL : LX X D cy x b Ln xs) {i : Int32} (j : Nat) (hj : i = nI j) (hjL : j < Ln) (hLn : Ln ≤ 3584) (hdg : decode cc pc = .ok (.iaload, 1)) (k : PO X P ce sl (pc + 1) L (.int (xs j) :: rest)) : PO X P ce sl pc L (.int i :: .ref b :: rest) := by
  subst hj
  obtain ⟨p, l, e, R, s, m, args, below, meth, c, A, Q⟩ := X
  obtain ⟨hx, hb, hml, hown, hts, hA, hlk⟩ := hC
  obtain ⟨hst9, hK, hN, hSB, hNC, hX, hbl, hbA, hAx, rfl⟩ := hL
  intro H locs ls hP hS hl
  have e9 : (nI j).toNatClampNeg = j := nI_clamp (by omega)
  refine va_sld hx hb hX hbl hbA hS (vp_in_nI hjL (by omega)) hdg ?_
  rw [e9]
  exact k H locs ls hP hS hl
theorem po_slen {P : Heap → Prop} (hC : CP X cc RL Ts nL) (hL : LX X D cy x b Ln xs) (hdg : decode cc pc = .ok (.arraylength, 1)) (k : PO X P ce sl (pc + 1) L (.int (nI Ln) :: rest)) : PO X P ce sl pc L (.ref b :: rest) := by
  obtain ⟨p, l, e, R, s, m, args, below, meth, c, A, Q⟩ := X
  obtain ⟨hx, hb, hml, hown, hts, hA, hlk⟩ := hC
  obtain ⟨hst9, hK, hN, hSB, hNC, hX, hbl, hbA, hAx, rfl⟩ := hL
  intro H locs ls hP hS hl
  exact va_slen hx hb hX hbl hbA hS hdg (k H locs ls hP hS hl)
theorem nI_c (j c : Nat) : nI j + nI c = nI (j + c) := (Int32.ofNat_add j c).symm
/-- script[i + c] -/
theorem po_scr {P : Heap → Prop} (hC : CP X cc RL Ts nL) (hL : LX X D cy x b Ln xs) (hLn : Ln ≤ 3584) {j : Nat} (c : Nat) {k1 k2 k3 : Option Value} {n : Int} {L2 : List (Option Value)} (hLL : L = some (.ref b) :: k1 :: k2 :: k3 :: some (.int (nI j)) :: L2) (hn : Int32.ofInt n = nI c) (hjL : j + c < Ln) (d1 : decode cc pc = .ok (.aload_n 0, 1)) (d2 : decode cc (pc + 1) = .ok (.iload 4, 2)) (d3 : decode cc (pc + 1 + 2) = .ok (.iconst n, 1)) (d4 : decode cc (pc + 1 + 2 + 1) = .ok (.iadd, 1)) (d5 : decode cc (pc + 1 + 2 + 1 + 1) = .ok (.iaload, 1))
    (k : PO X P ce sl (pc + 6) L (.int (xs (j + c)) :: rest)) : PO X P ce sl pc L rest := by
  subst hLL
  refine po_aload_n hC d1 rfl ?_
  refine po_iload hC d2 rfl ?_
  refine po_iconst (v := nI c) hC d3 hn ?_
  refine po_iadd hC d4 ?_
  exact po_sld hC hL (j + c) (nI_c j c) hjL hLn d5 k
theorem po_scr6 {P : Heap → Prop} (hC : CP X cc RL Ts nL) (hL : LX X D cy x b Ln xs) (hLn : Ln ≤ 3584) {j : Nat} (c : Nat) {k1 k2 k3 : Option Value} {n : Int} {L2 : List (Option Value)} (hLL : L = some (.ref b) :: k1 :: k2 :: k3 :: some (.int (nI j)) :: L2) (hn : (Int8.ofInt n).toInt32 = nI c) (hjL : j + c < Ln) (d1 : decode cc pc = .ok (.aload_n 0, 1)) (d2 : decode cc (pc + 1) = .ok (.iload 4, 2)) (d3 : decode cc (pc + 1 + 2) = .ok (.bipush n, 2)) (d4 : decode cc (pc + 1 + 2 + 2) = .ok (.iadd, 1)) (d5 : decode cc (pc + 1 + 2 + 2 + 1) = .ok (.iaload, 1))
    (k : PO X P ce sl (pc + 7) L (.int (xs (j + c)) :: rest)) : PO X P ce sl pc L rest := by
  subst hLL
  refine po_aload_n hC d1 rfl ?_
  refine po_iload hC d2 rfl ?_
  refine po_bipush (v := nI c) hC d3 hn ?_
  refine po_iadd hC d4 ?_
  exact po_sld hC hL (j + c) (nI_c j c) hjL hLn d5 k
end LW
theorem lg_cmp_self (x : Int64) : lg_cmp x x = 0 := by
  unfold lg_cmp
  simp
theorem and15 (x : Int32) : ∃ c : Nat, c < 16 ∧ x &&& 15 = nI c := by
  refine ⟨(x &&& 15).toUInt32.toNat, ?_, ?_⟩
  · have e : (x &&& 15).toUInt32.toNat = x.toUInt32.toNat &&& 15 := rfl
    rw [e]
    exact Nat.lt_succ_of_le Nat.and_le_right
  · unfold nI
    generalize x &&& 15 = y
    apply Int32.toBitVec_inj.mp
    show y.toBitVec = BitVec.ofNat 32 y.toBitVec.toNat
    rw [BitVec.ofNat_toNat]
    simp
section LC
variable {X : po_X} {D : va_G} {cy : Nat → ClassId} {x b Ln : Nat} {xs : Nat → Int32} {M G : gm_M} {w : Int64} {ce sl : Nat}
set_option maxHeartbeats 4000000 in
set_option maxRecDepth 100000 in
theorem lwc_plug (hC : CP X cL_law RL wsL_law 7) (hL : LX X D cy x b Ln xs) (hLn : Ln ≤ 3584) {i : Nat} (hi : 7 * i + 7 ≤ Ln) (h : RR M G) (hce : ce + 4 ≤ 603942) (hsl : sl + 24 ≤ 7284278) (next : ∀ (M2 G2 : gm_M) (w2 : Int64), RR M2 G2 → PO X (WL D cy x M2 G2 w2) (ce + 4) (sl + 24) 938 [some (.ref b), some (.ref x), some (.ref (x + 47)), some (.ref (x + 78)), some (.int (nI (7 * i))), none, none] []) : PO X (WL D cy x M G w) ce sl 116 [some (.ref b), some (.ref x), some (.ref (x + 47)), some (.ref (x + 78)), some (.int (nI (7 * i))), none, none] [] := by
  obtain ⟨k9, M2, wf, G2, bv, hk, hm, s1, s2, s3⟩ := ag_plug h (xs (7 * i + 1)) (xs (7 * i + 2))
  refine po_aload_n hC dL_law_116 rfl ?_
  refine po_scr hC hL hLn 1 rfl (by decide) (by omega) dL_law_117 dL_law_118 dL_law_120 dL_law_121 dL_law_122 ?_
  refine po_scr hC hL hLn 2 rfl (by decide) (by omega) dL_law_123 dL_law_124 dL_law_126 dL_law_127 dL_law_128 ?_
  refine po_aload_n hC dL_law_129 rfl ?_
  refine po_lcallH (n := 4) hC hL hk gL_law_L_plug rfl (by decide +kernel) ⟨rfl, rfl⟩ (by exact ⟨by decide, by decide⟩) (by constructor <;> omega) rfl rfl rfl rfl (Nat.le_of_ble_eq_true rfl) dL_law_130 ?_
  refine po_istore hC dL_law_133 (Nat.le_of_ble_eq_true rfl) ?_
  simp only [gm_s0, gm_s1]
  refine po_aload_n hC dL_law_135 rfl ?_
  refine po_scr hC hL hLn 1 rfl (by decide) (by omega) dL_law_136 dL_law_137 dL_law_139 dL_law_140 dL_law_141 ?_
  refine po_scr hC hL hLn 2 rfl (by decide) (by omega) dL_law_142 dL_law_143 dL_law_145 dL_law_146 dL_law_147 ?_
  refine po_lcallM (n := 2) hC hL hm gL_law_X3_plug rfl (by decide +kernel) ⟨rfl, rfl⟩ (by exact ⟨by decide, by decide⟩) (by constructor <;> omega) rfl rfl rfl rfl (Nat.le_of_ble_eq_true rfl) dL_law_148 ?_
  simp only [gm_r0, gm_r1]
  refine po_istore hC dL_law_151 (Nat.le_of_ble_eq_true rfl) ?_
  simp only [gm_s0, gm_s1]
  refine po_aload_n hC dL_law_153 rfl ?_
  refine po_lcallM (n := 0) hC hL (c_X3_thrown G2) gL_law_X3_thrown rfl (by decide +kernel) ⟨rfl, rfl⟩ (by exact ⟨by decide, by decide⟩) (by constructor <;> omega) rfl rfl rfl rfl (Nat.le_of_ble_eq_true rfl) dL_law_154 ?_
  simp only [gm_r0, gm_r1]
  refine po_iload hC dL_law_157 rfl ?_
  refine po_icmp_eq hC 164 dL_law_159 (by decide) (fun _ => ?_) (fun h9 => absurd s1.symm h9)
  refine po_iload hC dL_law_164 rfl ?_
  refine po_if_ne hC 181 dL_law_166 (by decide) (fun _ => ?_) (fun h8 => ?_)
  ·
    refine po_goto hC 938 dL_law_181 (by decide) ?_
    exact po_widen (by omega) (by omega) (po_sub (next _ _ _ s3) (by repeat (first | exact gm_le_nil | refine gm_le_c ?_ | refine gm_le_n ?_)))
  refine po_aload_n hC dL_law_169 rfl ?_
  refine po_iconst (v := 0) hC dL_law_170 (by decide) ?_
  refine po_lald hC hL dL_law_171 ?_
  refine po_iload hC dL_law_172 rfl ?_
  refine po_i2l hC dL_law_174 ?_
  refine po_lcmp hC dL_law_175 ?_
  refine po_if_eq hC 181 dL_law_176 (by decide) (fun _ => ?_) (fun h9 => absurd (by rw [s2 h8]; exact lg_cmp_self _) h9)
  refine po_goto hC 938 dL_law_181 (by decide) ?_
  exact po_widen (by omega) (by omega) (po_sub (next _ _ _ s3) (by repeat (first | exact gm_le_nil | refine gm_le_c ?_ | refine gm_le_n ?_)))
set_option maxHeartbeats 4000000 in
set_option maxRecDepth 100000 in
theorem lwc_unplug (hC : CP X cL_law RL wsL_law 7) (hL : LX X D cy x b Ln xs) (hLn : Ln ≤ 3584) {i : Nat} (hi : 7 * i + 7 ≤ Ln) (h : RR M G) (hce : ce + 4 ≤ 603942) (hsl : sl + 24 ≤ 7284278) (next : ∀ (M2 G2 : gm_M) (w2 : Int64), RR M2 G2 → PO X (WL D cy x M2 G2 w2) (ce + 4) (sl + 24) 938 [some (.ref b), some (.ref x), some (.ref (x + 47)), some (.ref (x + 78)), some (.int (nI (7 * i))), none, none] []) : PO X (WL D cy x M G w) ce sl 184 [some (.ref b), some (.ref x), some (.ref (x + 47)), some (.ref (x + 78)), some (.int (nI (7 * i))), none, none] [] := by
  obtain ⟨k9, M2, wf, G2, hk, hm, s1, s3⟩ := ag_unplug h (xs (7 * i + 1))
  refine po_aload_n hC dL_law_184 rfl ?_
  refine po_scr hC hL hLn 1 rfl (by decide) (by omega) dL_law_185 dL_law_186 dL_law_188 dL_law_189 dL_law_190 ?_
  refine po_lcallH (n := 2) hC hL hk gL_law_L_unplug rfl (by decide +kernel) ⟨rfl, rfl⟩ (by exact ⟨by decide, by decide⟩) (by constructor <;> omega) rfl rfl rfl rfl (Nat.le_of_ble_eq_true rfl) dL_law_191 ?_
  refine po_istore hC dL_law_194 (Nat.le_of_ble_eq_true rfl) ?_
  simp only [gm_s0, gm_s1]
  refine po_aload_n hC dL_law_196 rfl ?_
  refine po_scr hC hL hLn 1 rfl (by decide) (by omega) dL_law_197 dL_law_198 dL_law_200 dL_law_201 dL_law_202 ?_
  refine po_lcallM (n := 1) hC hL hm gL_law_X3_unplug rfl (by decide +kernel) ⟨rfl, rfl⟩ (by exact ⟨by decide, by decide⟩) (by constructor <;> omega) rfl rfl rfl rfl (Nat.le_of_ble_eq_true rfl) dL_law_203 ?_
  simp only [gm_r0, gm_r1]
  refine po_aload_n hC dL_law_206 rfl ?_
  refine po_lcallM (n := 0) hC hL (c_X3_thrown G2) gL_law_X3_thrown rfl (by decide +kernel) ⟨rfl, rfl⟩ (by exact ⟨by decide, by decide⟩) (by constructor <;> omega) rfl rfl rfl rfl (Nat.le_of_ble_eq_true rfl) dL_law_207 ?_
  simp only [gm_r0, gm_r1]
  refine po_iload hC dL_law_210 rfl ?_
  refine po_icmp_eq hC 217 dL_law_212 (by decide) (fun _ => ?_) (fun h9 => absurd s1.symm h9)
  refine po_goto hC 938 dL_law_217 (by decide) ?_
  exact po_widen (by omega) (by omega) (po_sub (next _ _ _ s3) (by repeat (first | exact gm_le_nil | refine gm_le_c ?_ | refine gm_le_n ?_)))
set_option maxHeartbeats 4000000 in
set_option maxRecDepth 100000 in
theorem lwc_contract (hC : CP X cL_law RL wsL_law 7) (hL : LX X D cy x b Ln xs) (hLn : Ln ≤ 3584) {i : Nat} (hi : 7 * i + 7 ≤ Ln) (h : RR M G) (hce : ce + 4 ≤ 603942) (hsl : sl + 24 ≤ 7284278) (next : ∀ (M2 G2 : gm_M) (w2 : Int64), RR M2 G2 → PO X (WL D cy x M2 G2 w2) (ce + 4) (sl + 24) 938 [some (.ref b), some (.ref x), some (.ref (x + 47)), some (.ref (x + 78)), some (.int (nI (7 * i))), none, none] []) : PO X (WL D cy x M G w) ce sl 220 [some (.ref b), some (.ref x), some (.ref (x + 47)), some (.ref (x + 78)), some (.int (nI (7 * i))), none, none] [] := by
  obtain ⟨k9, M2, wf, G2, hk, hm, s1, s3⟩ := ag_contract h (xs (7 * i + 1)) (xs (7 * i + 2)) (xs (7 * i + 3)) (xs (7 * i + 4)) (xs (7 * i + 5)) (xs (7 * i + 6))
  refine po_aload_n hC dL_law_220 rfl ?_
  refine po_scr hC hL hLn 1 rfl (by decide) (by omega) dL_law_221 dL_law_222 dL_law_224 dL_law_225 dL_law_226 ?_
  refine po_scr hC hL hLn 2 rfl (by decide) (by omega) dL_law_227 dL_law_228 dL_law_230 dL_law_231 dL_law_232 ?_
  refine po_scr hC hL hLn 3 rfl (by decide) (by omega) dL_law_233 dL_law_234 dL_law_236 dL_law_237 dL_law_238 ?_
  refine po_scr hC hL hLn 4 rfl (by decide) (by omega) dL_law_239 dL_law_240 dL_law_242 dL_law_243 dL_law_244 ?_
  refine po_scr hC hL hLn 5 rfl (by decide) (by omega) dL_law_245 dL_law_246 dL_law_248 dL_law_249 dL_law_250 ?_
  refine po_scr6 hC hL hLn 6 rfl (by decide) (by omega) dL_law_251 dL_law_252 dL_law_254 dL_law_256 dL_law_257 ?_
  refine po_lcallH (n := 7) hC hL hk gL_law_L_contract rfl (by decide +kernel) ⟨rfl, rfl⟩ (by exact ⟨by decide, by decide⟩) (by constructor <;> omega) rfl rfl rfl rfl (Nat.le_of_ble_eq_true rfl) dL_law_258 ?_
  refine po_istore hC dL_law_261 (Nat.le_of_ble_eq_true rfl) ?_
  simp only [gm_s0, gm_s1]
  refine po_aload_n hC dL_law_263 rfl ?_
  refine po_scr hC hL hLn 1 rfl (by decide) (by omega) dL_law_264 dL_law_265 dL_law_267 dL_law_268 dL_law_269 ?_
  refine po_scr hC hL hLn 2 rfl (by decide) (by omega) dL_law_270 dL_law_271 dL_law_273 dL_law_274 dL_law_275 ?_
  refine po_scr hC hL hLn 3 rfl (by decide) (by omega) dL_law_276 dL_law_277 dL_law_279 dL_law_280 dL_law_281 ?_
  refine po_scr hC hL hLn 4 rfl (by decide) (by omega) dL_law_282 dL_law_283 dL_law_285 dL_law_286 dL_law_287 ?_
  refine po_scr hC hL hLn 5 rfl (by decide) (by omega) dL_law_288 dL_law_289 dL_law_291 dL_law_292 dL_law_293 ?_
  refine po_scr6 hC hL hLn 6 rfl (by decide) (by omega) dL_law_294 dL_law_295 dL_law_297 dL_law_299 dL_law_300 ?_
  refine po_lcallM (n := 6) hC hL hm gL_law_X3_contract rfl (by decide +kernel) ⟨rfl, rfl⟩ (by exact ⟨by decide, by decide⟩) (by constructor <;> omega) rfl rfl rfl rfl (Nat.le_of_ble_eq_true rfl) dL_law_301 ?_
  simp only [gm_r0, gm_r1]
  refine po_aload_n hC dL_law_304 rfl ?_
  refine po_lcallM (n := 0) hC hL (c_X3_thrown G2) gL_law_X3_thrown rfl (by decide +kernel) ⟨rfl, rfl⟩ (by exact ⟨by decide, by decide⟩) (by constructor <;> omega) rfl rfl rfl rfl (Nat.le_of_ble_eq_true rfl) dL_law_305 ?_
  simp only [gm_r0, gm_r1]
  refine po_iload hC dL_law_308 rfl ?_
  refine po_icmp_eq hC 315 dL_law_310 (by decide) (fun _ => ?_) (fun h9 => absurd s1.symm h9)
  refine po_goto hC 938 dL_law_315 (by decide) ?_
  exact po_widen (by omega) (by omega) (po_sub (next _ _ _ s3) (by repeat (first | exact gm_le_nil | refine gm_le_c ?_ | refine gm_le_n ?_)))
set_option maxHeartbeats 4000000 in
set_option maxRecDepth 100000 in
theorem lwc_drift (hC : CP X cL_law RL wsL_law 7) (hL : LX X D cy x b Ln xs) (hLn : Ln ≤ 3584) {i : Nat} (hi : 7 * i + 7 ≤ Ln) (h : RR M G) (hce : ce + 4 ≤ 603942) (hsl : sl + 24 ≤ 7284278) (next : ∀ (M2 G2 : gm_M) (w2 : Int64), RR M2 G2 → PO X (WL D cy x M2 G2 w2) (ce + 4) (sl + 24) 938 [some (.ref b), some (.ref x), some (.ref (x + 47)), some (.ref (x + 78)), some (.int (nI (7 * i))), none, none] []) : PO X (WL D cy x M G w) ce sl 318 [some (.ref b), some (.ref x), some (.ref (x + 47)), some (.ref (x + 78)), some (.int (nI (7 * i))), none, none] [] := by
  obtain ⟨k9, M2, wf, G2, hk, hm, s1, s3⟩ := ag_drift h (xs (7 * i + 1)) (xs (7 * i + 2))
  refine po_aload_n hC dL_law_318 rfl ?_
  refine po_scr hC hL hLn 1 rfl (by decide) (by omega) dL_law_319 dL_law_320 dL_law_322 dL_law_323 dL_law_324 ?_
  refine po_scr hC hL hLn 2 rfl (by decide) (by omega) dL_law_325 dL_law_326 dL_law_328 dL_law_329 dL_law_330 ?_
  refine po_lcallH (n := 3) hC hL hk gL_law_L_drift rfl (by decide +kernel) ⟨rfl, rfl⟩ (by exact ⟨by decide, by decide⟩) (by constructor <;> omega) rfl rfl rfl rfl (Nat.le_of_ble_eq_true rfl) dL_law_331 ?_
  refine po_istore hC dL_law_334 (Nat.le_of_ble_eq_true rfl) ?_
  simp only [gm_s0, gm_s1]
  refine po_aload_n hC dL_law_336 rfl ?_
  refine po_scr hC hL hLn 1 rfl (by decide) (by omega) dL_law_337 dL_law_338 dL_law_340 dL_law_341 dL_law_342 ?_
  refine po_scr hC hL hLn 2 rfl (by decide) (by omega) dL_law_343 dL_law_344 dL_law_346 dL_law_347 dL_law_348 ?_
  refine po_lcallM (n := 2) hC hL hm gL_law_X3_drift rfl (by decide +kernel) ⟨rfl, rfl⟩ (by exact ⟨by decide, by decide⟩) (by constructor <;> omega) rfl rfl rfl rfl (Nat.le_of_ble_eq_true rfl) dL_law_349 ?_
  simp only [gm_r0, gm_r1]
  refine po_aload_n hC dL_law_352 rfl ?_
  refine po_lcallM (n := 0) hC hL (c_X3_thrown G2) gL_law_X3_thrown rfl (by decide +kernel) ⟨rfl, rfl⟩ (by exact ⟨by decide, by decide⟩) (by constructor <;> omega) rfl rfl rfl rfl (Nat.le_of_ble_eq_true rfl) dL_law_353 ?_
  simp only [gm_r0, gm_r1]
  refine po_iload hC dL_law_356 rfl ?_
  refine po_icmp_eq hC 363 dL_law_358 (by decide) (fun _ => ?_) (fun h9 => absurd s1.symm h9)
  refine po_goto hC 938 dL_law_363 (by decide) ?_
  exact po_widen (by omega) (by omega) (po_sub (next _ _ _ s3) (by repeat (first | exact gm_le_nil | refine gm_le_c ?_ | refine gm_le_n ?_)))
set_option maxHeartbeats 4000000 in
set_option maxRecDepth 100000 in
theorem lwc_send (hC : CP X cL_law RL wsL_law 7) (hL : LX X D cy x b Ln xs) (hLn : Ln ≤ 3584) {i : Nat} (hi : 7 * i + 7 ≤ Ln) (h : RR M G) (hce : ce + 4 ≤ 603942) (hsl : sl + 24 ≤ 7284278) (next : ∀ (M2 G2 : gm_M) (w2 : Int64), RR M2 G2 → PO X (WL D cy x M2 G2 w2) (ce + 4) (sl + 24) 938 [some (.ref b), some (.ref x), some (.ref (x + 47)), some (.ref (x + 78)), some (.int (nI (7 * i))), none, none] []) : PO X (WL D cy x M G w) ce sl 366 [some (.ref b), some (.ref x), some (.ref (x + 47)), some (.ref (x + 78)), some (.int (nI (7 * i))), none, none] [] := by
  obtain ⟨k9, M2, wf, G2, bv, hk, hm, s1, s2, s3⟩ := ag_send h (xs (7 * i + 1)) (xs (7 * i + 2)) (xs (7 * i + 3))
  refine po_aload_n hC dL_law_366 rfl ?_
  refine po_scr hC hL hLn 1 rfl (by decide) (by omega) dL_law_367 dL_law_368 dL_law_370 dL_law_371 dL_law_372 ?_
  refine po_scr hC hL hLn 2 rfl (by decide) (by omega) dL_law_373 dL_law_374 dL_law_376 dL_law_377 dL_law_378 ?_
  refine po_scr hC hL hLn 3 rfl (by decide) (by omega) dL_law_379 dL_law_380 dL_law_382 dL_law_383 dL_law_384 ?_
  refine po_aload_n hC dL_law_385 rfl ?_
  refine po_lcallH (n := 5) hC hL hk gL_law_L_send rfl (by decide +kernel) ⟨rfl, rfl⟩ (by exact ⟨by decide, by decide⟩) (by constructor <;> omega) rfl rfl rfl rfl (Nat.le_of_ble_eq_true rfl) dL_law_386 ?_
  refine po_istore hC dL_law_389 (Nat.le_of_ble_eq_true rfl) ?_
  simp only [gm_s0, gm_s1]
  refine po_aload_n hC dL_law_391 rfl ?_
  refine po_scr hC hL hLn 1 rfl (by decide) (by omega) dL_law_392 dL_law_393 dL_law_395 dL_law_396 dL_law_397 ?_
  refine po_scr hC hL hLn 2 rfl (by decide) (by omega) dL_law_398 dL_law_399 dL_law_401 dL_law_402 dL_law_403 ?_
  refine po_scr hC hL hLn 3 rfl (by decide) (by omega) dL_law_404 dL_law_405 dL_law_407 dL_law_408 dL_law_409 ?_
  refine po_lcallM (n := 3) hC hL hm gL_law_X3_send rfl (by decide +kernel) ⟨rfl, rfl⟩ (by exact ⟨by decide, by decide⟩) (by constructor <;> omega) rfl rfl rfl rfl (Nat.le_of_ble_eq_true rfl) dL_law_410 ?_
  simp only [gm_r0, gm_r1]
  refine po_istore hC dL_law_413 (Nat.le_of_ble_eq_true rfl) ?_
  simp only [gm_s0, gm_s1]
  refine po_aload_n hC dL_law_415 rfl ?_
  refine po_lcallM (n := 0) hC hL (c_X3_thrown G2) gL_law_X3_thrown rfl (by decide +kernel) ⟨rfl, rfl⟩ (by exact ⟨by decide, by decide⟩) (by constructor <;> omega) rfl rfl rfl rfl (Nat.le_of_ble_eq_true rfl) dL_law_416 ?_
  simp only [gm_r0, gm_r1]
  refine po_iload hC dL_law_419 rfl ?_
  refine po_icmp_eq hC 426 dL_law_421 (by decide) (fun _ => ?_) (fun h9 => absurd s1.symm h9)
  refine po_iload hC dL_law_426 rfl ?_
  refine po_if_ne hC 443 dL_law_428 (by decide) (fun _ => ?_) (fun h8 => ?_)
  ·
    refine po_goto hC 938 dL_law_443 (by decide) ?_
    exact po_widen (by omega) (by omega) (po_sub (next _ _ _ s3) (by repeat (first | exact gm_le_nil | refine gm_le_c ?_ | refine gm_le_n ?_)))
  refine po_aload_n hC dL_law_431 rfl ?_
  refine po_iconst (v := 0) hC dL_law_432 (by decide) ?_
  refine po_lald hC hL dL_law_433 ?_
  refine po_iload hC dL_law_434 rfl ?_
  refine po_i2l hC dL_law_436 ?_
  refine po_lcmp hC dL_law_437 ?_
  refine po_if_eq hC 443 dL_law_438 (by decide) (fun _ => ?_) (fun h9 => absurd (by rw [s2 h8]; exact lg_cmp_self _) h9)
  refine po_goto hC 938 dL_law_443 (by decide) ?_
  exact po_widen (by omega) (by omega) (po_sub (next _ _ _ s3) (by repeat (first | exact gm_le_nil | refine gm_le_c ?_ | refine gm_le_n ?_)))
set_option maxHeartbeats 4000000 in
set_option maxRecDepth 100000 in
theorem lwc_key (hC : CP X cL_law RL wsL_law 7) (hL : LX X D cy x b Ln xs) (hLn : Ln ≤ 3584) {i : Nat} (hi : 7 * i + 7 ≤ Ln) (h : RR M G) (hce : ce + 4 ≤ 603942) (hsl : sl + 24 ≤ 7284278) (next : ∀ (M2 G2 : gm_M) (w2 : Int64), RR M2 G2 → PO X (WL D cy x M2 G2 w2) (ce + 4) (sl + 24) 938 [some (.ref b), some (.ref x), some (.ref (x + 47)), some (.ref (x + 78)), some (.int (nI (7 * i))), none, none] []) : PO X (WL D cy x M G w) ce sl 446 [some (.ref b), some (.ref x), some (.ref (x + 47)), some (.ref (x + 78)), some (.int (nI (7 * i))), none, none] [] := by
  obtain ⟨k9, M2, wf, G2, hk, hm, s1, s3⟩ := ag_key h (xs (7 * i + 1)) (xs (7 * i + 2))
  refine po_aload_n hC dL_law_446 rfl ?_
  refine po_scr hC hL hLn 1 rfl (by decide) (by omega) dL_law_447 dL_law_448 dL_law_450 dL_law_451 dL_law_452 ?_
  refine po_scr hC hL hLn 2 rfl (by decide) (by omega) dL_law_453 dL_law_454 dL_law_456 dL_law_457 dL_law_458 ?_
  refine po_lcallH (n := 3) hC hL hk gL_law_L_key rfl (by decide +kernel) ⟨rfl, rfl⟩ (by exact ⟨by decide, by decide⟩) (by constructor <;> omega) rfl rfl rfl rfl (Nat.le_of_ble_eq_true rfl) dL_law_459 ?_
  refine po_istore hC dL_law_462 (Nat.le_of_ble_eq_true rfl) ?_
  simp only [gm_s0, gm_s1]
  refine po_aload_n hC dL_law_464 rfl ?_
  refine po_scr hC hL hLn 1 rfl (by decide) (by omega) dL_law_465 dL_law_466 dL_law_468 dL_law_469 dL_law_470 ?_
  refine po_scr hC hL hLn 2 rfl (by decide) (by omega) dL_law_471 dL_law_472 dL_law_474 dL_law_475 dL_law_476 ?_
  refine po_lcallM (n := 2) hC hL hm gL_law_X3_key rfl (by decide +kernel) ⟨rfl, rfl⟩ (by exact ⟨by decide, by decide⟩) (by constructor <;> omega) rfl rfl rfl rfl (Nat.le_of_ble_eq_true rfl) dL_law_477 ?_
  simp only [gm_r0, gm_r1]
  refine po_aload_n hC dL_law_480 rfl ?_
  refine po_lcallM (n := 0) hC hL (c_X3_thrown G2) gL_law_X3_thrown rfl (by decide +kernel) ⟨rfl, rfl⟩ (by exact ⟨by decide, by decide⟩) (by constructor <;> omega) rfl rfl rfl rfl (Nat.le_of_ble_eq_true rfl) dL_law_481 ?_
  simp only [gm_r0, gm_r1]
  refine po_iload hC dL_law_484 rfl ?_
  refine po_icmp_eq hC 491 dL_law_486 (by decide) (fun _ => ?_) (fun h9 => absurd s1.symm h9)
  refine po_goto hC 938 dL_law_491 (by decide) ?_
  exact po_widen (by omega) (by omega) (po_sub (next _ _ _ s3) (by repeat (first | exact gm_le_nil | refine gm_le_c ?_ | refine gm_le_n ?_)))
set_option maxHeartbeats 4000000 in
set_option maxRecDepth 100000 in
theorem lwc_down (hC : CP X cL_law RL wsL_law 7) (hL : LX X D cy x b Ln xs) (hLn : Ln ≤ 3584) {i : Nat} (hi : 7 * i + 7 ≤ Ln) (h : RR M G) (hce : ce + 4 ≤ 603942) (hsl : sl + 24 ≤ 7284278) (next : ∀ (M2 G2 : gm_M) (w2 : Int64), RR M2 G2 → PO X (WL D cy x M2 G2 w2) (ce + 4) (sl + 24) 938 [some (.ref b), some (.ref x), some (.ref (x + 47)), some (.ref (x + 78)), some (.int (nI (7 * i))), none, none] []) : PO X (WL D cy x M G w) ce sl 494 [some (.ref b), some (.ref x), some (.ref (x + 47)), some (.ref (x + 78)), some (.int (nI (7 * i))), none, none] [] := by
  obtain ⟨k9, M2, wf, G2, hk, hm, s1, s3⟩ := ag_down h (xs (7 * i + 1)) (xs (7 * i + 2))
  refine po_aload_n hC dL_law_494 rfl ?_
  refine po_scr hC hL hLn 1 rfl (by decide) (by omega) dL_law_495 dL_law_496 dL_law_498 dL_law_499 dL_law_500 ?_
  refine po_scr hC hL hLn 2 rfl (by decide) (by omega) dL_law_501 dL_law_502 dL_law_504 dL_law_505 dL_law_506 ?_
  refine po_lcallH (n := 3) hC hL hk gL_law_L_down rfl (by decide +kernel) ⟨rfl, rfl⟩ (by exact ⟨by decide, by decide⟩) (by constructor <;> omega) rfl rfl rfl rfl (Nat.le_of_ble_eq_true rfl) dL_law_507 ?_
  refine po_istore hC dL_law_510 (Nat.le_of_ble_eq_true rfl) ?_
  simp only [gm_s0, gm_s1]
  refine po_aload_n hC dL_law_512 rfl ?_
  refine po_scr hC hL hLn 1 rfl (by decide) (by omega) dL_law_513 dL_law_514 dL_law_516 dL_law_517 dL_law_518 ?_
  refine po_scr hC hL hLn 2 rfl (by decide) (by omega) dL_law_519 dL_law_520 dL_law_522 dL_law_523 dL_law_524 ?_
  refine po_lcallM (n := 2) hC hL hm gL_law_X3_down rfl (by decide +kernel) ⟨rfl, rfl⟩ (by exact ⟨by decide, by decide⟩) (by constructor <;> omega) rfl rfl rfl rfl (Nat.le_of_ble_eq_true rfl) dL_law_525 ?_
  simp only [gm_r0, gm_r1]
  refine po_aload_n hC dL_law_528 rfl ?_
  refine po_lcallM (n := 0) hC hL (c_X3_thrown G2) gL_law_X3_thrown rfl (by decide +kernel) ⟨rfl, rfl⟩ (by exact ⟨by decide, by decide⟩) (by constructor <;> omega) rfl rfl rfl rfl (Nat.le_of_ble_eq_true rfl) dL_law_529 ?_
  simp only [gm_r0, gm_r1]
  refine po_iload hC dL_law_532 rfl ?_
  refine po_icmp_eq hC 539 dL_law_534 (by decide) (fun _ => ?_) (fun h9 => absurd s1.symm h9)
  refine po_goto hC 938 dL_law_539 (by decide) ?_
  exact po_widen (by omega) (by omega) (po_sub (next _ _ _ s3) (by repeat (first | exact gm_le_nil | refine gm_le_c ?_ | refine gm_le_n ?_)))
set_option maxHeartbeats 4000000 in
set_option maxRecDepth 100000 in
theorem lwc_spoil (hC : CP X cL_law RL wsL_law 7) (hL : LX X D cy x b Ln xs) (hLn : Ln ≤ 3584) {i : Nat} (hi : 7 * i + 7 ≤ Ln) (h : RR M G) (hce : ce + 4 ≤ 603942) (hsl : sl + 24 ≤ 7284278) (next : ∀ (M2 G2 : gm_M) (w2 : Int64), RR M2 G2 → PO X (WL D cy x M2 G2 w2) (ce + 4) (sl + 24) 938 [some (.ref b), some (.ref x), some (.ref (x + 47)), some (.ref (x + 78)), some (.int (nI (7 * i))), none, none] []) : PO X (WL D cy x M G w) ce sl 542 [some (.ref b), some (.ref x), some (.ref (x + 47)), some (.ref (x + 78)), some (.int (nI (7 * i))), none, none] [] := by
  obtain ⟨k9, M2, wf, G2, hk, hm, s1, s3⟩ := ag_spoil h (xs (7 * i + 1))
  refine po_aload_n hC dL_law_542 rfl ?_
  refine po_scr hC hL hLn 1 rfl (by decide) (by omega) dL_law_543 dL_law_544 dL_law_546 dL_law_547 dL_law_548 ?_
  refine po_lcallH (n := 2) hC hL hk gL_law_L_spoil rfl (by decide +kernel) ⟨rfl, rfl⟩ (by exact ⟨by decide, by decide⟩) (by constructor <;> omega) rfl rfl rfl rfl (Nat.le_of_ble_eq_true rfl) dL_law_549 ?_
  refine po_istore hC dL_law_552 (Nat.le_of_ble_eq_true rfl) ?_
  simp only [gm_s0, gm_s1]
  refine po_aload_n hC dL_law_554 rfl ?_
  refine po_scr hC hL hLn 1 rfl (by decide) (by omega) dL_law_555 dL_law_556 dL_law_558 dL_law_559 dL_law_560 ?_
  refine po_lcallM (n := 1) hC hL hm gL_law_X3_spoil rfl (by decide +kernel) ⟨rfl, rfl⟩ (by exact ⟨by decide, by decide⟩) (by constructor <;> omega) rfl rfl rfl rfl (Nat.le_of_ble_eq_true rfl) dL_law_561 ?_
  simp only [gm_r0, gm_r1]
  refine po_aload_n hC dL_law_564 rfl ?_
  refine po_lcallM (n := 0) hC hL (c_X3_thrown G2) gL_law_X3_thrown rfl (by decide +kernel) ⟨rfl, rfl⟩ (by exact ⟨by decide, by decide⟩) (by constructor <;> omega) rfl rfl rfl rfl (Nat.le_of_ble_eq_true rfl) dL_law_565 ?_
  simp only [gm_r0, gm_r1]
  refine po_iload hC dL_law_568 rfl ?_
  refine po_icmp_eq hC 575 dL_law_570 (by decide) (fun _ => ?_) (fun h9 => absurd s1.symm h9)
  refine po_goto hC 938 dL_law_575 (by decide) ?_
  exact po_widen (by omega) (by omega) (po_sub (next _ _ _ s3) (by repeat (first | exact gm_le_nil | refine gm_le_c ?_ | refine gm_le_n ?_)))
set_option maxHeartbeats 4000000 in
set_option maxRecDepth 100000 in
theorem lwc_feeder (hC : CP X cL_law RL wsL_law 7) (hL : LX X D cy x b Ln xs) (hLn : Ln ≤ 3584) {i : Nat} (hi : 7 * i + 7 ≤ Ln) (h : RR M G) (hce : ce + 4 ≤ 603942) (hsl : sl + 24 ≤ 7284278) (next : ∀ (M2 G2 : gm_M) (w2 : Int64), RR M2 G2 → PO X (WL D cy x M2 G2 w2) (ce + 4) (sl + 24) 938 [some (.ref b), some (.ref x), some (.ref (x + 47)), some (.ref (x + 78)), some (.int (nI (7 * i))), none, none] []) : PO X (WL D cy x M G w) ce sl 578 [some (.ref b), some (.ref x), some (.ref (x + 47)), some (.ref (x + 78)), some (.int (nI (7 * i))), none, none] [] := by
  by_cases hz : xs (7 * i + 2) = 0
  ·
    obtain ⟨k9, M2, wf, G2, hk, hm, s1, s3⟩ := ag_feeder h (xs (7 * i + 1)) (0)
    refine po_aload_n hC dL_law_578 rfl ?_
    refine po_scr hC hL hLn 1 rfl (by decide) (by omega) dL_law_579 dL_law_580 dL_law_582 dL_law_583 dL_law_584 ?_
    refine po_scr hC hL hLn 2 rfl (by decide) (by omega) dL_law_585 dL_law_586 dL_law_588 dL_law_589 dL_law_590 ?_
    refine po_if_eq hC 598 dL_law_591 (by decide) (fun _ => ?_) (fun h9 => absurd hz h9)
    refine po_iconst (v := 0) hC dL_law_598 (by decide) ?_
    refine po_lcallH (n := 3) hC hL hk gL_law_L_feeder rfl (by decide +kernel) ⟨rfl, rfl⟩ (by exact ⟨by decide, by decide⟩) (by constructor <;> omega) rfl rfl rfl rfl (Nat.le_of_ble_eq_true rfl) dL_law_599 ?_
    refine po_istore hC dL_law_602 (Nat.le_of_ble_eq_true rfl) ?_
    simp only [gm_s0, gm_s1]
    refine po_aload_n hC dL_law_604 rfl ?_
    refine po_scr hC hL hLn 1 rfl (by decide) (by omega) dL_law_605 dL_law_606 dL_law_608 dL_law_609 dL_law_610 ?_
    refine po_scr hC hL hLn 2 rfl (by decide) (by omega) dL_law_611 dL_law_612 dL_law_614 dL_law_615 dL_law_616 ?_
    refine po_if_eq hC 624 dL_law_617 (by decide) (fun _ => ?_) (fun h9 => absurd hz h9)
    refine po_iconst (v := 0) hC dL_law_624 (by decide) ?_
    refine po_lcallM (n := 2) hC hL hm gL_law_X3_feeder rfl (by decide +kernel) ⟨rfl, rfl⟩ (by exact ⟨by decide, by decide⟩) (by constructor <;> omega) rfl rfl rfl rfl (Nat.le_of_ble_eq_true rfl) dL_law_625 ?_
    simp only [gm_r0, gm_r1]
    refine po_aload_n hC dL_law_628 rfl ?_
    refine po_lcallM (n := 0) hC hL (c_X3_thrown G2) gL_law_X3_thrown rfl (by decide +kernel) ⟨rfl, rfl⟩ (by exact ⟨by decide, by decide⟩) (by constructor <;> omega) rfl rfl rfl rfl (Nat.le_of_ble_eq_true rfl) dL_law_629 ?_
    simp only [gm_r0, gm_r1]
    refine po_iload hC dL_law_632 rfl ?_
    refine po_icmp_eq hC 639 dL_law_634 (by decide) (fun _ => ?_) (fun h9 => absurd s1.symm h9)
    refine po_goto hC 938 dL_law_639 (by decide) ?_
    exact po_widen (by omega) (by omega) (po_sub (next _ _ _ s3) (by repeat (first | exact gm_le_nil | refine gm_le_c ?_ | refine gm_le_n ?_)))
  ·
    obtain ⟨k9, M2, wf, G2, hk, hm, s1, s3⟩ := ag_feeder h (xs (7 * i + 1)) (1)
    refine po_aload_n hC dL_law_578 rfl ?_
    refine po_scr hC hL hLn 1 rfl (by decide) (by omega) dL_law_579 dL_law_580 dL_law_582 dL_law_583 dL_law_584 ?_
    refine po_scr hC hL hLn 2 rfl (by decide) (by omega) dL_law_585 dL_law_586 dL_law_588 dL_law_589 dL_law_590 ?_
    refine po_if_eq hC 598 dL_law_591 (by decide) (fun h9 => absurd h9 hz) (fun _ => ?_)
    refine po_iconst (v := 1) hC dL_law_594 (by decide) ?_
    refine po_goto hC 599 dL_law_595 (by decide) ?_
    refine po_lcallH (n := 3) hC hL hk gL_law_L_feeder rfl (by decide +kernel) ⟨rfl, rfl⟩ (by exact ⟨by decide, by decide⟩) (by constructor <;> omega) rfl rfl rfl rfl (Nat.le_of_ble_eq_true rfl) dL_law_599 ?_
    refine po_istore hC dL_law_602 (Nat.le_of_ble_eq_true rfl) ?_
    simp only [gm_s0, gm_s1]
    refine po_aload_n hC dL_law_604 rfl ?_
    refine po_scr hC hL hLn 1 rfl (by decide) (by omega) dL_law_605 dL_law_606 dL_law_608 dL_law_609 dL_law_610 ?_
    refine po_scr hC hL hLn 2 rfl (by decide) (by omega) dL_law_611 dL_law_612 dL_law_614 dL_law_615 dL_law_616 ?_
    refine po_if_eq hC 624 dL_law_617 (by decide) (fun h9 => absurd h9 hz) (fun _ => ?_)
    refine po_iconst (v := 1) hC dL_law_620 (by decide) ?_
    refine po_goto hC 625 dL_law_621 (by decide) ?_
    refine po_lcallM (n := 2) hC hL hm gL_law_X3_feeder rfl (by decide +kernel) ⟨rfl, rfl⟩ (by exact ⟨by decide, by decide⟩) (by constructor <;> omega) rfl rfl rfl rfl (Nat.le_of_ble_eq_true rfl) dL_law_625 ?_
    simp only [gm_r0, gm_r1]
    refine po_aload_n hC dL_law_628 rfl ?_
    refine po_lcallM (n := 0) hC hL (c_X3_thrown G2) gL_law_X3_thrown rfl (by decide +kernel) ⟨rfl, rfl⟩ (by exact ⟨by decide, by decide⟩) (by constructor <;> omega) rfl rfl rfl rfl (Nat.le_of_ble_eq_true rfl) dL_law_629 ?_
    simp only [gm_r0, gm_r1]
    refine po_iload hC dL_law_632 rfl ?_
    refine po_icmp_eq hC 639 dL_law_634 (by decide) (fun _ => ?_) (fun h9 => absurd s1.symm h9)
    refine po_goto hC 938 dL_law_639 (by decide) ?_
    exact po_widen (by omega) (by omega) (po_sub (next _ _ _ s3) (by repeat (first | exact gm_le_nil | refine gm_le_c ?_ | refine gm_le_n ?_)))
set_option maxHeartbeats 4000000 in
set_option maxRecDepth 100000 in
theorem lwc_discover (hC : CP X cL_law RL wsL_law 7) (hL : LX X D cy x b Ln xs) (hLn : Ln ≤ 3584) {i : Nat} (hi : 7 * i + 7 ≤ Ln) (h : RR M G) (hce : ce + 4 ≤ 603942) (hsl : sl + 24 ≤ 7284278) (next : ∀ (M2 G2 : gm_M) (w2 : Int64), RR M2 G2 → PO X (WL D cy x M2 G2 w2) (ce + 4) (sl + 24) 938 [some (.ref b), some (.ref x), some (.ref (x + 47)), some (.ref (x + 78)), some (.int (nI (7 * i))), none, none] []) : PO X (WL D cy x M G w) ce sl 642 [some (.ref b), some (.ref x), some (.ref (x + 47)), some (.ref (x + 78)), some (.int (nI (7 * i))), none, none] [] := by
  obtain ⟨M2, G2, hk, hm, s3⟩ := ag_discover h
  refine po_aload_n hC dL_law_642 rfl ?_
  refine po_lcallC (n := 0) hC hL hk gL_law_X2_discover rfl (by decide +kernel) ⟨rfl, rfl⟩ (by exact ⟨by decide, by decide⟩) (by constructor <;> omega) rfl rfl rfl rfl (Nat.le_of_ble_eq_true rfl) dL_law_643 ?_
  simp only [gm_r0, gm_r1]
  refine po_aload_n hC dL_law_646 rfl ?_
  refine po_lcallM (n := 0) hC hL hm gL_law_X3_discover rfl (by decide +kernel) ⟨rfl, rfl⟩ (by exact ⟨by decide, by decide⟩) (by constructor <;> omega) rfl rfl rfl rfl (Nat.le_of_ble_eq_true rfl) dL_law_647 ?_
  simp only [gm_r0, gm_r1]
  refine po_goto hC 938 dL_law_650 (by decide) ?_
  exact po_widen (by omega) (by omega) (po_sub (next _ _ _ s3) (by repeat (first | exact gm_le_nil | refine gm_le_c ?_ | refine gm_le_n ?_)))
set_option maxHeartbeats 4000000 in
set_option maxRecDepth 100000 in
theorem lwc_frame (hC : CP X cL_law RL wsL_law 7) (hL : LX X D cy x b Ln xs) (hLn : Ln ≤ 3584) {i : Nat} (hi : 7 * i + 7 ≤ Ln) (h : RR M G) (hce : ce + 4 ≤ 603942) (hsl : sl + 24 ≤ 7284278) (next : ∀ (M2 G2 : gm_M) (w2 : Int64), RR M2 G2 → PO X (WL D cy x M2 G2 w2) (ce + 4) (sl + 24) 938 [some (.ref b), some (.ref x), some (.ref (x + 47)), some (.ref (x + 78)), some (.int (nI (7 * i))), none, none] []) : PO X (WL D cy x M G w) ce sl 653 [some (.ref b), some (.ref x), some (.ref (x + 47)), some (.ref (x + 78)), some (.int (nI (7 * i))), none, none] [] := by
  obtain ⟨M2, G2, bv, hk, hm, s3⟩ := ag_frame h
  refine po_aload_n hC dL_law_653 rfl ?_
  refine po_lcallC (n := 0) hC hL hk gL_law_X2_frame rfl (by decide +kernel) ⟨rfl, rfl⟩ (by exact ⟨by decide, by decide⟩) (by constructor <;> omega) rfl rfl rfl rfl (Nat.le_of_ble_eq_true rfl) dL_law_654 ?_
  simp only [gm_r0, gm_r1]
  refine po_aload_n hC dL_law_657 rfl ?_
  refine po_lcallM (n := 0) hC hL hm gL_law_X3_frame rfl (by decide +kernel) ⟨rfl, rfl⟩ (by exact ⟨by decide, by decide⟩) (by constructor <;> omega) rfl rfl rfl rfl (Nat.le_of_ble_eq_true rfl) dL_law_658 ?_
  simp only [gm_r0, gm_r1]
  refine po_icmp_eq hC 938 dL_law_661 (by decide) (fun _ => ?_) (fun h9 => absurd rfl h9)
  exact po_widen (by omega) (by omega) (po_sub (next _ _ _ s3) (by repeat (first | exact gm_le_nil | refine gm_le_c ?_ | refine gm_le_n ?_)))
set_option maxHeartbeats 4000000 in
set_option maxRecDepth 100000 in
theorem lwc_unit (hC : CP X cL_law RL wsL_law 7) (hL : LX X D cy x b Ln xs) (hLn : Ln ≤ 3584) {i : Nat} (hi : 7 * i + 7 ≤ Ln) (h : RR M G) (hce : ce + 4 ≤ 603942) (hsl : sl + 24 ≤ 7284278) (next : ∀ (M2 G2 : gm_M) (w2 : Int64), RR M2 G2 → PO X (WL D cy x M2 G2 w2) (ce + 4) (sl + 24) 938 [some (.ref b), some (.ref x), some (.ref (x + 47)), some (.ref (x + 78)), some (.int (nI (7 * i))), none, none] []) : PO X (WL D cy x M G w) ce sl 666 [some (.ref b), some (.ref x), some (.ref (x + 47)), some (.ref (x + 78)), some (.int (nI (7 * i))), none, none] [] := by
  obtain ⟨k9, M2, wf, G2, bv, hk, hm, s1, s2, s3⟩ := ag_unit h (xs (7 * i + 1)) (xs (7 * i + 2))
  refine po_aload_n hC dL_law_666 rfl ?_
  refine po_scr hC hL hLn 1 rfl (by decide) (by omega) dL_law_667 dL_law_668 dL_law_670 dL_law_671 dL_law_672 ?_
  refine po_scr hC hL hLn 2 rfl (by decide) (by omega) dL_law_673 dL_law_674 dL_law_676 dL_law_677 dL_law_678 ?_
  refine po_aload_n hC dL_law_679 rfl ?_
  refine po_lcallH (n := 4) hC hL hk gL_law_L_unit rfl (by decide +kernel) ⟨rfl, rfl⟩ (by exact ⟨by decide, by decide⟩) (by constructor <;> omega) rfl rfl rfl rfl (Nat.le_of_ble_eq_true rfl) dL_law_680 ?_
  refine po_istore hC dL_law_683 (Nat.le_of_ble_eq_true rfl) ?_
  simp only [gm_s0, gm_s1]
  refine po_aload_n hC dL_law_685 rfl ?_
  refine po_scr hC hL hLn 1 rfl (by decide) (by omega) dL_law_686 dL_law_687 dL_law_689 dL_law_690 dL_law_691 ?_
  refine po_scr hC hL hLn 2 rfl (by decide) (by omega) dL_law_692 dL_law_693 dL_law_695 dL_law_696 dL_law_697 ?_
  refine po_lcallM (n := 2) hC hL hm gL_law_X3_unit rfl (by decide +kernel) ⟨rfl, rfl⟩ (by exact ⟨by decide, by decide⟩) (by constructor <;> omega) rfl rfl rfl rfl (Nat.le_of_ble_eq_true rfl) dL_law_698 ?_
  simp only [gm_r0, gm_r1]
  refine po_istore hC dL_law_701 (Nat.le_of_ble_eq_true rfl) ?_
  simp only [gm_s0, gm_s1]
  refine po_aload_n hC dL_law_703 rfl ?_
  refine po_lcallM (n := 0) hC hL (c_X3_thrown G2) gL_law_X3_thrown rfl (by decide +kernel) ⟨rfl, rfl⟩ (by exact ⟨by decide, by decide⟩) (by constructor <;> omega) rfl rfl rfl rfl (Nat.le_of_ble_eq_true rfl) dL_law_704 ?_
  simp only [gm_r0, gm_r1]
  refine po_iload hC dL_law_707 rfl ?_
  refine po_icmp_eq hC 714 dL_law_709 (by decide) (fun _ => ?_) (fun h9 => absurd s1.symm h9)
  refine po_iload hC dL_law_714 rfl ?_
  refine po_if_ne hC 731 dL_law_716 (by decide) (fun _ => ?_) (fun h8 => ?_)
  ·
    refine po_goto hC 938 dL_law_731 (by decide) ?_
    exact po_widen (by omega) (by omega) (po_sub (next _ _ _ s3) (by repeat (first | exact gm_le_nil | refine gm_le_c ?_ | refine gm_le_n ?_)))
  refine po_aload_n hC dL_law_719 rfl ?_
  refine po_iconst (v := 0) hC dL_law_720 (by decide) ?_
  refine po_lald hC hL dL_law_721 ?_
  refine po_iload hC dL_law_722 rfl ?_
  refine po_i2l hC dL_law_724 ?_
  refine po_lcmp hC dL_law_725 ?_
  refine po_if_eq hC 731 dL_law_726 (by decide) (fun _ => ?_) (fun h9 => absurd (by rw [s2 h8]; exact lg_cmp_self _) h9)
  refine po_goto hC 938 dL_law_731 (by decide) ?_
  exact po_widen (by omega) (by omega) (po_sub (next _ _ _ s3) (by repeat (first | exact gm_le_nil | refine gm_le_c ?_ | refine gm_le_n ?_)))
set_option maxHeartbeats 4000000 in
set_option maxRecDepth 100000 in
theorem lwc_container (hC : CP X cL_law RL wsL_law 7) (hL : LX X D cy x b Ln xs) (hLn : Ln ≤ 3584) {i : Nat} (hi : 7 * i + 7 ≤ Ln) (h : RR M G) (hce : ce + 4 ≤ 603942) (hsl : sl + 24 ≤ 7284278) (next : ∀ (M2 G2 : gm_M) (w2 : Int64), RR M2 G2 → PO X (WL D cy x M2 G2 w2) (ce + 4) (sl + 24) 938 [some (.ref b), some (.ref x), some (.ref (x + 47)), some (.ref (x + 78)), some (.int (nI (7 * i))), none, none] []) : PO X (WL D cy x M G w) ce sl 734 [some (.ref b), some (.ref x), some (.ref (x + 47)), some (.ref (x + 78)), some (.int (nI (7 * i))), none, none] [] := by
  obtain ⟨k9, M2, wf, G2, bv, hk, hm, s1, s2, s3⟩ := ag_container h (xs (7 * i + 1)) (xs (7 * i + 2)) (xs (7 * i + 3))
  refine po_aload_n hC dL_law_734 rfl ?_
  refine po_scr hC hL hLn 1 rfl (by decide) (by omega) dL_law_735 dL_law_736 dL_law_738 dL_law_739 dL_law_740 ?_
  refine po_scr hC hL hLn 2 rfl (by decide) (by omega) dL_law_741 dL_law_742 dL_law_744 dL_law_745 dL_law_746 ?_
  refine po_scr hC hL hLn 3 rfl (by decide) (by omega) dL_law_747 dL_law_748 dL_law_750 dL_law_751 dL_law_752 ?_
  refine po_aload_n hC dL_law_753 rfl ?_
  refine po_lcallH (n := 5) hC hL hk gL_law_L_container rfl (by decide +kernel) ⟨rfl, rfl⟩ (by exact ⟨by decide, by decide⟩) (by constructor <;> omega) rfl rfl rfl rfl (Nat.le_of_ble_eq_true rfl) dL_law_754 ?_
  refine po_istore hC dL_law_757 (Nat.le_of_ble_eq_true rfl) ?_
  simp only [gm_s0, gm_s1]
  refine po_aload_n hC dL_law_759 rfl ?_
  refine po_scr hC hL hLn 1 rfl (by decide) (by omega) dL_law_760 dL_law_761 dL_law_763 dL_law_764 dL_law_765 ?_
  refine po_scr hC hL hLn 2 rfl (by decide) (by omega) dL_law_766 dL_law_767 dL_law_769 dL_law_770 dL_law_771 ?_
  refine po_scr hC hL hLn 3 rfl (by decide) (by omega) dL_law_772 dL_law_773 dL_law_775 dL_law_776 dL_law_777 ?_
  refine po_lcallM (n := 3) hC hL hm gL_law_X3_container rfl (by decide +kernel) ⟨rfl, rfl⟩ (by exact ⟨by decide, by decide⟩) (by constructor <;> omega) rfl rfl rfl rfl (Nat.le_of_ble_eq_true rfl) dL_law_778 ?_
  simp only [gm_r0, gm_r1]
  refine po_istore hC dL_law_781 (Nat.le_of_ble_eq_true rfl) ?_
  simp only [gm_s0, gm_s1]
  refine po_aload_n hC dL_law_783 rfl ?_
  refine po_lcallM (n := 0) hC hL (c_X3_thrown G2) gL_law_X3_thrown rfl (by decide +kernel) ⟨rfl, rfl⟩ (by exact ⟨by decide, by decide⟩) (by constructor <;> omega) rfl rfl rfl rfl (Nat.le_of_ble_eq_true rfl) dL_law_784 ?_
  simp only [gm_r0, gm_r1]
  refine po_iload hC dL_law_787 rfl ?_
  refine po_icmp_eq hC 794 dL_law_789 (by decide) (fun _ => ?_) (fun h9 => absurd s1.symm h9)
  refine po_iload hC dL_law_794 rfl ?_
  refine po_if_ne hC 811 dL_law_796 (by decide) (fun _ => ?_) (fun h8 => ?_)
  ·
    refine po_goto hC 938 dL_law_811 (by decide) ?_
    exact po_widen (by omega) (by omega) (po_sub (next _ _ _ s3) (by repeat (first | exact gm_le_nil | refine gm_le_c ?_ | refine gm_le_n ?_)))
  refine po_aload_n hC dL_law_799 rfl ?_
  refine po_iconst (v := 0) hC dL_law_800 (by decide) ?_
  refine po_lald hC hL dL_law_801 ?_
  refine po_iload hC dL_law_802 rfl ?_
  refine po_i2l hC dL_law_804 ?_
  refine po_lcmp hC dL_law_805 ?_
  refine po_if_eq hC 811 dL_law_806 (by decide) (fun _ => ?_) (fun h9 => absurd (by rw [s2 h8]; exact lg_cmp_self _) h9)
  refine po_goto hC 938 dL_law_811 (by decide) ?_
  exact po_widen (by omega) (by omega) (po_sub (next _ _ _ s3) (by repeat (first | exact gm_le_nil | refine gm_le_c ?_ | refine gm_le_n ?_)))
set_option maxHeartbeats 4000000 in
set_option maxRecDepth 100000 in
theorem lwc_came (hC : CP X cL_law RL wsL_law 7) (hL : LX X D cy x b Ln xs) (hLn : Ln ≤ 3584) {i : Nat} (hi : 7 * i + 7 ≤ Ln) (h : RR M G) (hce : ce + 4 ≤ 603942) (hsl : sl + 24 ≤ 7284278) (next : ∀ (M2 G2 : gm_M) (w2 : Int64), RR M2 G2 → PO X (WL D cy x M2 G2 w2) (ce + 4) (sl + 24) 938 [some (.ref b), some (.ref x), some (.ref (x + 47)), some (.ref (x + 78)), some (.int (nI (7 * i))), none, none] []) : PO X (WL D cy x M G w) ce sl 814 [some (.ref b), some (.ref x), some (.ref (x + 47)), some (.ref (x + 78)), some (.int (nI (7 * i))), none, none] [] := by
  obtain ⟨k9, M2, wf, G2, bv, hk, hm, s1, s2, s3⟩ := ag_came h (xs (7 * i + 1)) (xs (7 * i + 2))
  refine po_aload_n hC dL_law_814 rfl ?_
  refine po_scr hC hL hLn 1 rfl (by decide) (by omega) dL_law_815 dL_law_816 dL_law_818 dL_law_819 dL_law_820 ?_
  refine po_scr hC hL hLn 2 rfl (by decide) (by omega) dL_law_821 dL_law_822 dL_law_824 dL_law_825 dL_law_826 ?_
  refine po_aload_n hC dL_law_827 rfl ?_
  refine po_lcallH (n := 4) hC hL hk gL_law_L_came rfl (by decide +kernel) ⟨rfl, rfl⟩ (by exact ⟨by decide, by decide⟩) (by constructor <;> omega) rfl rfl rfl rfl (Nat.le_of_ble_eq_true rfl) dL_law_828 ?_
  refine po_istore hC dL_law_831 (Nat.le_of_ble_eq_true rfl) ?_
  simp only [gm_s0, gm_s1]
  refine po_aload_n hC dL_law_833 rfl ?_
  refine po_scr hC hL hLn 1 rfl (by decide) (by omega) dL_law_834 dL_law_835 dL_law_837 dL_law_838 dL_law_839 ?_
  refine po_scr hC hL hLn 2 rfl (by decide) (by omega) dL_law_840 dL_law_841 dL_law_843 dL_law_844 dL_law_845 ?_
  refine po_lcallM (n := 2) hC hL hm gL_law_X3_came rfl (by decide +kernel) ⟨rfl, rfl⟩ (by exact ⟨by decide, by decide⟩) (by constructor <;> omega) rfl rfl rfl rfl (Nat.le_of_ble_eq_true rfl) dL_law_846 ?_
  simp only [gm_r0, gm_r1]
  refine po_istore hC dL_law_849 (Nat.le_of_ble_eq_true rfl) ?_
  simp only [gm_s0, gm_s1]
  refine po_aload_n hC dL_law_851 rfl ?_
  refine po_lcallM (n := 0) hC hL (c_X3_thrown G2) gL_law_X3_thrown rfl (by decide +kernel) ⟨rfl, rfl⟩ (by exact ⟨by decide, by decide⟩) (by constructor <;> omega) rfl rfl rfl rfl (Nat.le_of_ble_eq_true rfl) dL_law_852 ?_
  simp only [gm_r0, gm_r1]
  refine po_iload hC dL_law_855 rfl ?_
  refine po_icmp_eq hC 862 dL_law_857 (by decide) (fun _ => ?_) (fun h9 => absurd s1.symm h9)
  refine po_iload hC dL_law_862 rfl ?_
  refine po_if_ne hC 879 dL_law_864 (by decide) (fun _ => ?_) (fun h8 => ?_)
  ·
    refine po_goto hC 938 dL_law_879 (by decide) ?_
    exact po_widen (by omega) (by omega) (po_sub (next _ _ _ s3) (by repeat (first | exact gm_le_nil | refine gm_le_c ?_ | refine gm_le_n ?_)))
  refine po_aload_n hC dL_law_867 rfl ?_
  refine po_iconst (v := 0) hC dL_law_868 (by decide) ?_
  refine po_lald hC hL dL_law_869 ?_
  refine po_iload hC dL_law_870 rfl ?_
  refine po_i2l hC dL_law_872 ?_
  refine po_lcmp hC dL_law_873 ?_
  refine po_if_eq hC 879 dL_law_874 (by decide) (fun _ => ?_) (fun h9 => absurd (by rw [s2 h8]; exact lg_cmp_self _) h9)
  refine po_goto hC 938 dL_law_879 (by decide) ?_
  exact po_widen (by omega) (by omega) (po_sub (next _ _ _ s3) (by repeat (first | exact gm_le_nil | refine gm_le_c ?_ | refine gm_le_n ?_)))
set_option maxHeartbeats 4000000 in
set_option maxRecDepth 100000 in
theorem lwc_count (hC : CP X cL_law RL wsL_law 7) (hL : LX X D cy x b Ln xs) (hLn : Ln ≤ 3584) {i : Nat} (hi : 7 * i + 7 ≤ Ln) (h : RR M G) (hce : ce + 4 ≤ 603942) (hsl : sl + 24 ≤ 7284278) (next : ∀ (M2 G2 : gm_M) (w2 : Int64), RR M2 G2 → PO X (WL D cy x M2 G2 w2) (ce + 4) (sl + 24) 938 [some (.ref b), some (.ref x), some (.ref (x + 47)), some (.ref (x + 78)), some (.int (nI (7 * i))), none, none] []) : PO X (WL D cy x M G w) ce sl 882 [some (.ref b), some (.ref x), some (.ref (x + 47)), some (.ref (x + 78)), some (.int (nI (7 * i))), none, none] [] := by
  obtain ⟨k9, M2, wf, G2, bv, hk, hm, s1, s2, s3⟩ := ag_count h (xs (7 * i + 1))
  refine po_aload_n hC dL_law_882 rfl ?_
  refine po_scr hC hL hLn 1 rfl (by decide) (by omega) dL_law_883 dL_law_884 dL_law_886 dL_law_887 dL_law_888 ?_
  refine po_aload_n hC dL_law_889 rfl ?_
  refine po_lcallH (n := 3) hC hL hk gL_law_L_count rfl (by decide +kernel) ⟨rfl, rfl⟩ (by exact ⟨by decide, by decide⟩) (by constructor <;> omega) rfl rfl rfl rfl (Nat.le_of_ble_eq_true rfl) dL_law_890 ?_
  refine po_istore hC dL_law_893 (Nat.le_of_ble_eq_true rfl) ?_
  simp only [gm_s0, gm_s1]
  refine po_aload_n hC dL_law_895 rfl ?_
  refine po_scr hC hL hLn 1 rfl (by decide) (by omega) dL_law_896 dL_law_897 dL_law_899 dL_law_900 dL_law_901 ?_
  refine po_lcallM (n := 1) hC hL hm gL_law_X3_count rfl (by decide +kernel) ⟨rfl, rfl⟩ (by exact ⟨by decide, by decide⟩) (by constructor <;> omega) rfl rfl rfl rfl (Nat.le_of_ble_eq_true rfl) dL_law_902 ?_
  simp only [gm_r0, gm_r1]
  refine po_istore hC dL_law_905 (Nat.le_of_ble_eq_true rfl) ?_
  simp only [gm_s0, gm_s1]
  refine po_aload_n hC dL_law_907 rfl ?_
  refine po_lcallM (n := 0) hC hL (c_X3_thrown G2) gL_law_X3_thrown rfl (by decide +kernel) ⟨rfl, rfl⟩ (by exact ⟨by decide, by decide⟩) (by constructor <;> omega) rfl rfl rfl rfl (Nat.le_of_ble_eq_true rfl) dL_law_908 ?_
  simp only [gm_r0, gm_r1]
  refine po_iload hC dL_law_911 rfl ?_
  refine po_icmp_eq hC 918 dL_law_913 (by decide) (fun _ => ?_) (fun h9 => absurd s1.symm h9)
  refine po_iload hC dL_law_918 rfl ?_
  refine po_if_ne hC 935 dL_law_920 (by decide) (fun _ => ?_) (fun h8 => ?_)
  ·
    refine po_goto hC 938 dL_law_935 (by decide) ?_
    exact po_widen (by omega) (by omega) (po_sub (next _ _ _ s3) (by repeat (first | exact gm_le_nil | refine gm_le_c ?_ | refine gm_le_n ?_)))
  refine po_aload_n hC dL_law_923 rfl ?_
  refine po_iconst (v := 0) hC dL_law_924 (by decide) ?_
  refine po_lald hC hL dL_law_925 ?_
  refine po_iload hC dL_law_926 rfl ?_
  refine po_i2l hC dL_law_928 ?_
  refine po_lcmp hC dL_law_929 ?_
  refine po_if_eq hC 935 dL_law_930 (by decide) (fun _ => ?_) (fun h9 => absurd (by rw [s2 h8]; exact lg_cmp_self _) h9)
  refine po_goto hC 938 dL_law_935 (by decide) ?_
  exact po_widen (by omega) (by omega) (po_sub (next _ _ _ s3) (by repeat (first | exact gm_le_nil | refine gm_le_c ?_ | refine gm_le_n ?_)))
set_option maxHeartbeats 4000000 in
set_option maxRecDepth 100000 in
theorem lw_turn (hC : CP X cL_law RL wsL_law 7) (hL : LX X D cy x b Ln xs) (hLn : Ln ≤ 3584) {i : Nat} (hi : 7 * i + 7 ≤ Ln) (h : RR M G) (hce : ce + 4 ≤ 603942) (hsl : sl + 24 ≤ 7284278) (next : ∀ (M2 G2 : gm_M) (w2 : Int64), RR M2 G2 → PO X (WL D cy x M2 G2 w2) (ce + 4) (sl + 24) 938 [some (.ref b), some (.ref x), some (.ref (x + 47)), some (.ref (x + 78)), some (.int (nI (7 * i))), none, none] []) : PO X (WL D cy x M G w) ce sl 33 [some (.ref b), some (.ref x), some (.ref (x + 47)), some (.ref (x + 78)), some (.int (nI (7 * i))), none, none] [] := by
  refine po_aload_n hC dL_law_33 rfl ?_
  refine po_iload hC dL_law_34 rfl ?_
  refine po_sld hC hL (7 * i) rfl (by omega) hLn dL_law_36 ?_
  refine po_bipush (v := 15) hC dL_law_37 (by decide) ?_
  refine po_iand hC dL_law_39 ?_
  obtain ⟨c, hc, e9⟩ := and15 (xs (7 * i))
  rw [e9]
  clear e9
  match c, hc with
  | 0, _ => exact po_tabIn hC 116 dL_law_40 (by decide) (by decide) rfl (by decide) (lwc_plug hC hL hLn hi h hce hsl next)
  | 1, _ => exact po_tabIn hC 184 dL_law_40 (by decide) (by decide) rfl (by decide) (lwc_unplug hC hL hLn hi h hce hsl next)
  | 2, _ => exact po_tabIn hC 220 dL_law_40 (by decide) (by decide) rfl (by decide) (lwc_contract hC hL hLn hi h hce hsl next)
  | 3, _ => exact po_tabIn hC 318 dL_law_40 (by decide) (by decide) rfl (by decide) (lwc_drift hC hL hLn hi h hce hsl next)
  | 4, _ => exact po_tabIn hC 366 dL_law_40 (by decide) (by decide) rfl (by decide) (lwc_send hC hL hLn hi h hce hsl next)
  | 5, _ => exact po_tabIn hC 446 dL_law_40 (by decide) (by decide) rfl (by decide) (lwc_key hC hL hLn hi h hce hsl next)
  | 6, _ => exact po_tabIn hC 494 dL_law_40 (by decide) (by decide) rfl (by decide) (lwc_down hC hL hLn hi h hce hsl next)
  | 7, _ => exact po_tabIn hC 542 dL_law_40 (by decide) (by decide) rfl (by decide) (lwc_spoil hC hL hLn hi h hce hsl next)
  | 8, _ => exact po_tabIn hC 578 dL_law_40 (by decide) (by decide) rfl (by decide) (lwc_feeder hC hL hLn hi h hce hsl next)
  | 9, _ => exact po_tabIn hC 642 dL_law_40 (by decide) (by decide) rfl (by decide) (lwc_discover hC hL hLn hi h hce hsl next)
  | 10, _ => exact po_tabIn hC 653 dL_law_40 (by decide) (by decide) rfl (by decide) (lwc_frame hC hL hLn hi h hce hsl next)
  | 11, _ => exact po_tabIn hC 666 dL_law_40 (by decide) (by decide) rfl (by decide) (lwc_unit hC hL hLn hi h hce hsl next)
  | 12, _ => exact po_tabIn hC 734 dL_law_40 (by decide) (by decide) rfl (by decide) (lwc_container hC hL hLn hi h hce hsl next)
  | 13, _ => exact po_tabIn hC 814 dL_law_40 (by decide) (by decide) rfl (by decide) (lwc_came hC hL hLn hi h hce hsl next)
  | 14, _ => exact po_tabIn hC 882 dL_law_40 (by decide) (by decide) rfl (by decide) (lwc_count hC hL hLn hi h hce hsl next)
  | 15, _ => exact po_tabOut hC 938 dL_law_40 (by decide) (by decide) (po_widen (by omega) (by omega) (next M G w h))
  | n + 16, h => exact absurd h (by omega)
set_option maxHeartbeats 4000000 in
set_option maxRecDepth 100000 in
theorem lw_loop (hC : CP X cL_law RL wsL_law 7) (hL : LX X D cy x b Ln xs) (hLn : Ln ≤ 3584) (hE : ∀ (P : Heap → Prop) (ce sl pc : Nat) (L : List (Option Value)), ce ≤ 603942 → sl ≤ 7284278 → decode cL_law pc = .ok (.ireturn, 1) → PO X P ce sl pc L [.int 1]) : (fun i : Nat => ∀ (M G : gm_M) (w : Int64), RR M G → PO X (WL D cy x M G w) (79 + 4 * i) (1575 + 24 * i) 23 [some (.ref b), some (.ref x), some (.ref (x + 47)), some (.ref (x + 78)), some (.int (nI (7 * i))), none, none] []) 0 := by
  refine loopN (Ln / 7) (fun i : Nat => ∀ (M G : gm_M) (w : Int64), RR M G → PO X (WL D cy x M G w) (79 + 4 * i) (1575 + 24 * i) 23 [some (.ref b), some (.ref x), some (.ref (x + 47)), some (.ref (x + 78)), some (.int (nI (7 * i))), none, none] []) ?_ (fun i hi ih => ?_)
  · try dsimp only
    intro M G w h
    refine po_iload hC dL_law_23 rfl ?_
    refine po_aload_n hC dL_law_25 rfl ?_
    refine po_slen hC hL dL_law_26 ?_
    refine po_bipush (v := nI 7) hC dL_law_27 (by decide) ?_
    refine po_isub hC dL_law_29 ?_
    refine po_icmp_gt hC 944 dL_law_30 (by decide) (fun h9 => ?_) (fun h9 => ?_)
    · refine po_iconst (v := 1) hC dL_law_944 (by decide) ?_
      exact hE _ _ _ _ _ (by omega) (by omega) dL_law_945
    · exfalso
      apply h9
      rw [Int32.lt_iff_toInt_lt, pk_sub_toInt (by omega) (by omega), nI_toInt (by omega)]
      omega
  · try dsimp only at ih ⊢
    intro M G w h
    refine po_iload hC dL_law_23 rfl ?_
    refine po_aload_n hC dL_law_25 rfl ?_
    refine po_slen hC hL dL_law_26 ?_
    refine po_bipush (v := nI 7) hC dL_law_27 (by decide) ?_
    refine po_isub hC dL_law_29 ?_
    refine po_icmp_gt hC 944 dL_law_30 (by decide) (fun h9 => ?_) (fun h9 => ?_)
    · exfalso
      rw [Int32.lt_iff_toInt_lt, pk_sub_toInt (by omega) (by omega), nI_toInt (by omega)] at h9
      omega
    · refine lw_turn hC hL hLn (by omega) h (by omega) (by omega) (fun M2 G2 w2 h2 => ?_)
      refine po_iinc (v := nI 7) hC dL_law_938 rfl (by decide) ?_
      simp only [gm_s0, gm_s1]
      refine po_goto hC 23 dL_law_941 (by decide) ?_
      rw [nI_c, show 7 * i + 7 = 7 * (i + 1) by omega]
      exact po_widen (by omega) (by omega) (ih M2 G2 w2 h2)
theorem lwl_cl2 : Cond.classLink RL 8 RX2 ∈ wsL_law := by decide +kernel
theorem lwl_in2 : Cond.instantiable RX2 16 ∈ wsL_law := by decide +kernel
theorem lwl_iz2 : Cond.initialized RX2 ∈ wsL_law := by decide +kernel
theorem lwl_cl3 : Cond.classLink RL 62 RX3 ∈ wsL_law := by decide +kernel
theorem lwl_in3 : Cond.instantiable RX3 41 ∈ wsL_law := by decide +kernel
theorem lwl_iz3 : Cond.initialized RX3 ∈ wsL_law := by decide +kernel
theorem lwl_ml2 : Cond.methodLink RL 61 yX2_init ∈ wsL_law := by decide +kernel
theorem lwl_im2 : Cond.instanceMethod yX2_init ∈ wsL_law := by decide +kernel
theorem lwl_ml3 : Cond.methodLink RL 64 yX3_init ∈ wsL_law := by decide +kernel
theorem lwl_im3 : Cond.instanceMethod yX3_init ∈ wsL_law := by decide +kernel
theorem lwl_al : Cond.arrayClass .long ∈ wsL_law := by decide +kernel
theorem lwl_k2 : ∀ w ∈ wsX20, w ∈ wsL_law := fun _ h => List.mem_append_left _ (List.mem_append_left _ (List.mem_append_left _ (List.mem_append_left _ (List.mem_append_left _ (List.mem_append_left _ (List.mem_append_left _ (List.mem_append_right _ h)))))))
theorem lwl_k3 : ∀ w ∈ wsX30, w ∈ wsL_law := fun _ h => List.mem_append_left _ (List.mem_append_left _ (List.mem_append_left _ (List.mem_append_left _ (List.mem_append_left _ (List.mem_append_left _ (List.mem_append_right _ h))))))
theorem po_newl {Ts : List Cond} {cc : ByteArray} {own : String} {nL pc n : Nat} {E : Nat → va_E} {base : Nat} {L : List (Option Value)} {rest : List Value} (hC : CP X cc own Ts nL) (hK : va_K D vwCl (tyL cy) (po_s X)) (harr : Cond.arrayClass .long ∈ Ts) {v : Int32} (hn : v = 1) (hce : ce + 1 ≤ (po_R X).cells) (hsl : sl + 1 ≤ (po_R X).slots) (hdg : decode cc pc = .ok (.newarray .long, 2)) (k : PO X (AF D base (n + 1) (eU E n (lE cy 0))) (ce + 1) (sl + 1) (pc + 2) L (.ref (base + n) :: rest)) : PO X (AF D base n E) ce sl pc L (.int v :: rest) := by
  subst hn
  obtain ⟨p, l, e, R, s, m, args, below, meth, c, A, Q⟩ := X
  obtain ⟨hx, hb, hml, hown, hts, hA, hlk⟩ := hC
  intro H locs ls hP hS hl
  refine va_newaK (atype := .long) (N := 1) hx hb (hts _ harr) rfl hdg rfl (by decide) (by decide) (by decide) hce hsl hP.1 fun H1 cA e1 z1 o1 hAr hNm => ?_
  have hcA : cA = cy 4 := Option.some.inj (hNm.symm.trans (hK.2 4 _ rfl).2)
  subst hcA
  refine k H1 locs ls (hP.push z1 o1 ?_) ⟨Nat.le_trans hS.1 (by rw [z1, hP.1]; omega), fun x h1 h2 => (o1 x (by have := hS.1; have := hP.1; omega)).trans (hS.2.1 x h1 h2), hS.2.2⟩ hl
  show H1[base + n]? = some (vp_cell _ _)
  rw [vp_cell_l]
  exact e1
def eL0 (cy : Nat → ClassId) (x i : Nat) : va_E := if i < 47 then fE cy x 5 i else if i < 78 then mE cy (x + 47) (i - 47) else lE cy 0
theorem eL0_W {H : Heap} (h : AF D x 79 (eL0 cy x) H) : WL D cy x M0 G0 0 H := by
  refine ⟨gm_P0C ⟨trivial, fun i hi => ?_⟩, gm_P0M ⟨trivial, fun i hi => ?_⟩, ?_⟩
  · have q := h.2 i (by omega)
    unfold eL0 at q
    rw [if_pos hi] at q
    exact q
  · have q := h.2 (47 + i) (by omega)
    unfold eL0 at q
    rw [if_neg (by omega), if_pos (by omega), show 47 + i - 47 = i by omega, show x + (47 + i) = x + 47 + i by omega] at q
    exact q
  · have q := h.2 78 (by omega)
    unfold eL0 at q
    rw [if_neg (by omega), if_neg (by omega)] at q
    exact q
set_option maxHeartbeats 4000000 in
set_option maxRecDepth 100000 in
theorem lw_start (hC : CP X cL_law RL wsL_law 7) (hL : LX X D cy x b Ln xs) (hao0 : va_AO RX0 (po_s X)) (hao1 : va_AO RX1 (po_s X)) (hLn : Ln ≤ 3584) (hE : ∀ (P : Heap → Prop) (ce sl pc : Nat) (L : List (Option Value)), ce ≤ 603942 → sl ≤ 7284278 → decode cL_law pc = .ok (.ireturn, 1) → PO X P ce sl pc L [.int 1]) : PO X (AF D x 0 (fun _ => lE cy 0)) 0 0 0 [some (.ref b), none, none, none, none, none, none] [] := by
  have hR : po_R X = room_1 := by
    obtain ⟨p, l, e, R, s, m, args, below, meth, c, A, Q⟩ := X
    exact hL.2.2.2.2.2.2.2.2.2
  have hK : va_K D vwCl (tyL cy) (po_s X) := by
    obtain ⟨p, l, e, R, s, m, args, below, meth, c, A, Q⟩ := X
    exact hL.2.1
  have hN : NW (po_s X) := by
    obtain ⟨p, l, e, R, s, m, args, below, meth, c, A, Q⟩ := X
    exact hL.2.2.1
  have hA : ∀ q, x ≤ q → po_A X q := by
    obtain ⟨p, l, e, R, s, m, args, below, meth, c, A, Q⟩ := X
    exact hL.2.2.2.2.2.2.2.2.1
  refine po_newo (T := TX2) (ci := 2) hC (tyL_K hK) lwl_k2 tyX2 tyX2_ok lwl_cl2 lwl_in2 lwl_iz2 rfl (by rw [hR]; decide) (by rw [hR]; decide) dL_law_0 ?_
  refine po_dup hC dL_law_3 rfl ?_
  refine po_callI hC (tyL_K hK) hN hao0 hao1 hA c_X2_init rfl gL_law_X2_init rfl ⟨rfl, rfl⟩ lwl_iz2 lwl_ml2 lwl_im2 rfl (by decide) (by rw [hR]; exact ⟨by decide, by decide⟩) (by rw [hR]; exact ⟨by decide, by decide⟩) rfl (Nat.le_of_ble_eq_true rfl) dL_law_4 ?_
  refine po_mono (P' := AF D x 47 (fE cy x 5)) (fun H h => AF.congr h (fun i hi => by rw [if_neg (Nat.not_lt_zero _)]; rfl)) ?_
  refine po_astore_n hC 1 dL_law_7 rfl (Nat.le_of_ble_eq_true rfl) ?_
  simp only [gm_s0, gm_s1, Nat.add_zero, Nat.zero_add]
  refine po_newo (T := TX3) (ci := 3) hC (tyL_K hK) lwl_k3 tyX3 tyX3_ok lwl_cl3 lwl_in3 lwl_iz3 rfl (by rw [hR]; decide) (by rw [hR]; decide) dL_law_8 ?_
  refine po_dup hC dL_law_11 rfl ?_
  refine po_callI hC (tyL_K hK) hN hao0 hao1 hA c_X3_init rfl gL_law_X3_init rfl ⟨rfl, rfl⟩ lwl_iz3 lwl_ml3 lwl_im3 rfl (by decide) (by rw [hR]; exact ⟨by decide, by decide⟩) (by rw [hR]; exact ⟨by decide, by decide⟩) rfl (Nat.le_of_ble_eq_true rfl) dL_law_12 ?_
  refine po_astore_n hC 2 dL_law_15 rfl (Nat.le_of_ble_eq_true rfl) ?_
  simp only [gm_s0, gm_s1]
  refine po_iconst (v := 1) hC dL_law_16 (by decide) ?_
  refine po_newl hC hK lwl_al rfl (by rw [hR]; decide) (by rw [hR]; decide) dL_law_17 ?_
  refine po_astore_n hC 3 dL_law_19 rfl (Nat.le_of_ble_eq_true rfl) ?_
  simp only [gm_s0, gm_s1]
  refine po_iconst (v := nI (7 * 0)) hC dL_law_20 (by decide) ?_
  refine po_istore hC dL_law_21 (Nat.le_of_ble_eq_true rfl) ?_
  simp only [gm_s0, gm_s1]
  refine po_widen (c2 := 79 + 4 * 0) (s2 := 1575 + 24 * 0) (by decide) (by decide) ?_
  refine po_mono (P' := WL D cy x M0 G0 0) (fun H h => eL0_W (AF.congr h (fun i hi => ?_))) (lw_loop hC hL hLn hE M0 G0 0 RR0)
  unfold eU eL0
  dsimp only
  by_cases q : i = 78
  · rw [if_pos q, if_neg (by omega), if_neg (by omega)]
  · rw [if_neg q]
    by_cases q2 : i < 47
    · rw [if_pos q2, if_pos q2, if_neg (by omega)]
    · rw [if_neg q2, if_neg q2, if_pos (by omega)]
end LC
