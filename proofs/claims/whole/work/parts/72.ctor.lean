/-! ===== the constructors ===== -/
theorem AF.to {D : va_G} {base n : Nat} {E E' : Nat → va_E} {H : Heap} (h : AF D base n E H) (he : ∀ i, i < n → va_at D vwCl (base + i, E i) H → va_at D vwCl (base + i, E' i) H) : AF D base n E' H := ⟨h.1, fun i hi => he i hi (h.2 i hi)⟩
theorem aR_to {D : va_G} {cy : Nat → ClassId} {t N a : Nat} {f g : Nat → Option Nat} {H : Heap} (e : ∀ j, j < N → f j = g j) (h : va_at D vwCl (a, aR cy t N f) H) : va_at D vwCl (a, aR cy t N g) H := by
  have h1 : H[a]? = some (vp_cell (cy t) (N, .inr (.inr (.inr (.inr f))))) := h
  show H[a]? = some (vp_cell (cy t) (N, .inr (.inr (.inr (.inr g)))))
  rw [h1, vp_cell_q, vp_cell_q]
  unfold arrV
  congr 3
  funext j
  show va_rf (f j.val) = va_rf (g j.val)
  rw [e j.val j.isLt]
def fcF (x : Nat) : Nat → Value := fU (fU (fU (fun j => defaultValue (tyX0 j)) 0 (.ref (x + 1))) 1 (.ref (x + 2))) 7 (.int 1)
def fuF (x : Nat) : Nat → Value := fU (fun j => defaultValue (tyX1 j)) 0 (.ref (x + 1))
def ffF (x : Nat) : Nat → Value := fU (fU (fU (fU (fU (fU (fun j => defaultValue (tyX2 j)) 0 (.ref (x + 1))) 1 (.ref (x + 2))) 2 (.ref (x + 3))) 3 (.ref (x + 4))) 4 (.ref (x + 5))) 5 (.ref (x + 6))
def ecE (cy : Nat → ClassId) (x i : Nat) : va_E := if i = 0 then oE 0 11 (fcF x) else aI cy 0 8
def uE (cy : Nat → ClassId) (x j i : Nat) : va_E := if i = 0 then oE 1 15 (fuF x) else if i = 1 then aR cy 2 2 (fun q => if q < j then some (x + 2 + 3 * q) else none) else ecE cy (x + 2 + 3 * ((i - 2) / 3)) ((i - 2) % 3)
def fE (cy : Nat → ClassId) (x j i : Nat) : va_E := if i = 0 then oE 2 16 (ffF x) else if i = 1 then aR cy 3 5 (fun q => if q < j then some (x + 7 + 8 * q) else none) else if i = 2 then aI cy 1 2 else if i = 3 then aI cy 0 400 else if i = 4 then aI cy 0 8 else if i = 5 then aI cy 0 5 else if i = 6 then aI cy 0 5 else uE cy (x + 7 + 8 * ((i - 7) / 8)) 2 ((i - 7) % 8)
def fmF (x : Nat) : Nat → Value := (fU (fU (fU (fU (fU (fU (fU (fU (fU (fU (fU (fU (fU (fU (fU (fU (fU (fU (fU (fU (fU (fU (fU (fU (fU (fU (fU (fU (fU (fU (fun j => defaultValue (tyX3 j)) 1 (.ref (x + 1))) 2 (.ref (x + 2))) 3 (.ref (x + 3))) 4 (.ref (x + 4))) 5 (.ref (x + 5))) 6 (.ref (x + 6))) 8 (.ref (x + 7))) 12 (.ref (x + 8))) 13 (.ref (x + 9))) 14 (.ref (x + 10))) 15 (.ref (x + 11))) 16 (.ref (x + 12))) 17 (.ref (x + 13))) 18 (.ref (x + 14))) 19 (.ref (x + 15))) 20 (.ref (x + 16))) 21 (.ref (x + 17))) 22 (.ref (x + 18))) 23 (.ref (x + 19))) 24 (.ref (x + 20))) 25 (.ref (x + 21))) 26 (.ref (x + 22))) 27 (.ref (x + 23))) 29 (.ref (x + 24))) 30 (.ref (x + 25))) 32 (.ref (x + 26))) 33 (.ref (x + 27))) 34 (.ref (x + 28))) 39 (.ref (x + 29))) 40 (.ref (x + 30)))
def mE (cy : Nat → ClassId) (x i : Nat) : va_E := match i with
  | 0 => oE 3 41 (fmF x)
  | 1 => aI cy 0 5
  | 2 => aI cy 0 5
  | 3 => aI cy 0 5
  | 4 => aI cy 0 5
  | 5 => aI cy 0 5
  | 6 => aI cy 1 5
  | 7 => aI cy 1 2
  | 8 => aI cy 0 5
  | 9 => aI cy 0 5
  | 10 => aI cy 0 5
  | 11 => aI cy 1 5
  | 12 => aI cy 0 5
  | 13 => aI cy 0 5
  | 14 => aI cy 0 5
  | 15 => aI cy 0 10
  | 16 => aI cy 0 10
  | 17 => aI cy 0 10
  | 18 => aI cy 0 10
  | 19 => aI cy 0 10
  | 20 => aI cy 0 10
  | 21 => aI cy 0 10
  | 22 => aI cy 0 10
  | 23 => aI cy 0 80
  | 24 => aI cy 0 100
  | 25 => aI cy 1 100
  | 26 => aI cy 0 100
  | 27 => aI cy 0 100
  | 28 => aI cy 0 100
  | 29 => aI cy 0 5
  | 30 => aI cy 0 5
  | _ => aI cy 0 0
theorem clX1_init_9 : Cond.classLink RX1 9 RX0 ∈ wsX1_init := by decide +kernel
theorem clX2_init_9 : Cond.classLink RX2 9 RX1 ∈ wsX2_init := by decide +kernel
theorem imX1_init : Cond.instanceMethod yX0_init ∈ wsX1_init := by decide +kernel
theorem imX2_init : Cond.instanceMethod yX1_init ∈ wsX2_init := by decide +kernel
theorem inX1_init : Cond.instantiable RX0 11 ∈ wsX1_init := by decide +kernel
theorem inX2_init : Cond.instantiable RX1 15 ∈ wsX2_init := by decide +kernel
theorem izX1_init : Cond.initialized RX0 ∈ wsX1_init := by decide +kernel
theorem izX2_init : Cond.initialized RX1 ∈ wsX2_init := by decide +kernel
theorem kwX0_init_0 : ∀ w ∈ wsX00, w ∈ wsX0_init := by decide +kernel
theorem kwX1_init_0 : ∀ w ∈ wsX00, w ∈ wsX1_init := by decide +kernel
theorem kwX1_init_1 : ∀ w ∈ wsX10, w ∈ wsX1_init := by decide +kernel
theorem kwX2_init_1 : ∀ w ∈ wsX10, w ∈ wsX2_init := by decide +kernel
theorem kwX2_init_2 : ∀ w ∈ wsX20, w ∈ wsX2_init := by decide +kernel
theorem kwX3_init_3 : ∀ w ∈ wsX30, w ∈ wsX3_init := by decide +kernel
theorem lcX2_init : Cond.methodLink RX2 32 yX1_init ∈ wsX2_init := by decide +kernel
theorem li2X0_init : Cond.instanceMethod Lib.objectInit ∈ wsX0_init := by decide +kernel
theorem li2X1_init : Cond.instanceMethod Lib.objectInit ∈ wsX1_init := by decide +kernel
theorem li2X2_init : Cond.instanceMethod Lib.objectInit ∈ wsX2_init := by decide +kernel
theorem li2X3_init : Cond.instanceMethod Lib.objectInit ∈ wsX3_init := by decide +kernel
theorem li3X0_init : Cond.code Lib.objectInit ⟨#[0xb1]⟩ 1 none ∈ wsX0_init := by decide +kernel
theorem li3X1_init : Cond.code Lib.objectInit ⟨#[0xb1]⟩ 1 none ∈ wsX1_init := by decide +kernel
theorem li3X2_init : Cond.code Lib.objectInit ⟨#[0xb1]⟩ 1 none ∈ wsX2_init := by decide +kernel
theorem li3X3_init : Cond.code Lib.objectInit ⟨#[0xb1]⟩ 1 none ∈ wsX3_init := by decide +kernel
theorem liX0_init : Cond.methodLink RX0 3 Lib.objectInit ∈ wsX0_init := by decide +kernel
theorem liX1_init : Cond.methodLink RX1 3 Lib.objectInit ∈ wsX1_init := by decide +kernel
theorem liX2_init : Cond.methodLink RX2 1 Lib.objectInit ∈ wsX2_init := by decide +kernel
theorem liX3_init : Cond.methodLink RX3 1 Lib.objectInit ∈ wsX3_init := by decide +kernel
theorem lpX0_init_15 : Cond.fieldLink RX0 15 "SharedFibre$Container" "unsent" "[I" ∈ wsX0_init := by decide +kernel
theorem lpX0_init_18 : Cond.fieldLink RX0 18 "SharedFibre$Container" "weight" "I" ∈ wsX0_init := by decide +kernel
theorem lpX0_init_9 : Cond.fieldLink RX0 9 "SharedFibre$Container" "numbers" "[I" ∈ wsX0_init := by decide +kernel
theorem lpX1_init_11 : Cond.fieldLink RX1 11 "SharedFibre$Unit" "containers" "[LSharedFibre$Container;" ∈ wsX1_init := by decide +kernel
theorem lpX2_init_11 : Cond.fieldLink RX2 11 "SharedFibre" "units" "[LSharedFibre$Unit;" ∈ wsX2_init := by decide +kernel
theorem lpX2_init_15 : Cond.fieldLink RX2 15 "SharedFibre" "cut" "[Z" ∈ wsX2_init := by decide +kernel
theorem lpX2_init_19 : Cond.fieldLink RX2 19 "SharedFibre" "arrivals" "[I" ∈ wsX2_init := by decide +kernel
theorem lpX2_init_23 : Cond.fieldLink RX2 23 "SharedFibre" "answersIn" "[I" ∈ wsX2_init := by decide +kernel
theorem lpX2_init_26 : Cond.fieldLink RX2 26 "SharedFibre" "burstStart" "[I" ∈ wsX2_init := by decide +kernel
theorem lpX2_init_29 : Cond.fieldLink RX2 29 "SharedFibre" "burstEnd" "[I" ∈ wsX2_init := by decide +kernel
theorem lpX3_init_13 : Cond.fieldLink RX3 13 "SharedFibreModel" "serial" "[I" ∈ wsX3_init := by decide +kernel
theorem lpX3_init_16 : Cond.fieldLink RX3 16 "SharedFibreModel" "way" "[I" ∈ wsX3_init := by decide +kernel
theorem lpX3_init_19 : Cond.fieldLink RX3 19 "SharedFibreModel" "answered" "[I" ∈ wsX3_init := by decide +kernel
theorem lpX3_init_22 : Cond.fieldLink RX3 22 "SharedFibreModel" "hold" "[I" ∈ wsX3_init := by decide +kernel
theorem lpX3_init_25 : Cond.fieldLink RX3 25 "SharedFibreModel" "spoilt" "[Z" ∈ wsX3_init := by decide +kernel
theorem lpX3_init_29 : Cond.fieldLink RX3 29 "SharedFibreModel" "cut" "[Z" ∈ wsX3_init := by decide +kernel
theorem lpX3_init_32 : Cond.fieldLink RX3 32 "SharedFibreModel" "inForce" "[I" ∈ wsX3_init := by decide +kernel
theorem lpX3_init_35 : Cond.fieldLink RX3 35 "SharedFibreModel" "waiting" "[I" ∈ wsX3_init := by decide +kernel
theorem lpX3_init_38 : Cond.fieldLink RX3 38 "SharedFibreModel" "told" "[I" ∈ wsX3_init := by decide +kernel
theorem lpX3_init_41 : Cond.fieldLink RX3 41 "SharedFibreModel" "hasWord" "[Z" ∈ wsX3_init := by decide +kernel
theorem lpX3_init_44 : Cond.fieldLink RX3 44 "SharedFibreModel" "word" "[I" ∈ wsX3_init := by decide +kernel
theorem lpX3_init_47 : Cond.fieldLink RX3 47 "SharedFibreModel" "made" "[I" ∈ wsX3_init := by decide +kernel
theorem lpX3_init_50 : Cond.fieldLink RX3 50 "SharedFibreModel" "sentAs" "[I" ∈ wsX3_init := by decide +kernel
theorem lpX3_init_53 : Cond.fieldLink RX3 53 "SharedFibreModel" "fixed" "[I" ∈ wsX3_init := by decide +kernel
theorem lpX3_init_56 : Cond.fieldLink RX3 56 "SharedFibreModel" "assured" "[I" ∈ wsX3_init := by decide +kernel
theorem lpX3_init_59 : Cond.fieldLink RX3 59 "SharedFibreModel" "most" "[I" ∈ wsX3_init := by decide +kernel
theorem lpX3_init_62 : Cond.fieldLink RX3 62 "SharedFibreModel" "weight" "[I" ∈ wsX3_init := by decide +kernel
theorem lpX3_init_65 : Cond.fieldLink RX3 65 "SharedFibreModel" "reported" "[I" ∈ wsX3_init := by decide +kernel
theorem lpX3_init_68 : Cond.fieldLink RX3 68 "SharedFibreModel" "given" "[I" ∈ wsX3_init := by decide +kernel
theorem lpX3_init_7 : Cond.fieldLink RX3 7 "SharedFibreModel" "state" "[I" ∈ wsX3_init := by decide +kernel
theorem lpX3_init_71 : Cond.fieldLink RX3 71 "SharedFibreModel" "spare" "[I" ∈ wsX3_init := by decide +kernel
theorem lpX3_init_74 : Cond.fieldLink RX3 74 "SharedFibreModel" "queued" "[I" ∈ wsX3_init := by decide +kernel
theorem lpX3_init_77 : Cond.fieldLink RX3 77 "SharedFibreModel" "queue" "[I" ∈ wsX3_init := by decide +kernel
theorem lpX3_init_80 : Cond.fieldLink RX3 80 "SharedFibreModel" "left" "[I" ∈ wsX3_init := by decide +kernel
theorem lpX3_init_83 : Cond.fieldLink RX3 83 "SharedFibreModel" "broken" "[Z" ∈ wsX3_init := by decide +kernel
theorem lpX3_init_86 : Cond.fieldLink RX3 86 "SharedFibreModel" "cameNumber" "[I" ∈ wsX3_init := by decide +kernel
theorem lpX3_init_89 : Cond.fieldLink RX3 89 "SharedFibreModel" "cameFrom" "[I" ∈ wsX3_init := by decide +kernel
theorem lpX3_init_92 : Cond.fieldLink RX3 92 "SharedFibreModel" "cameFrame" "[I" ∈ wsX3_init := by decide +kernel
theorem lpX3_init_95 : Cond.fieldLink RX3 95 "SharedFibreModel" "start" "[I" ∈ wsX3_init := by decide +kernel
theorem lpX3_init_98 : Cond.fieldLink RX3 98 "SharedFibreModel" "span" "[I" ∈ wsX3_init := by decide +kernel
theorem naX0_init_i : Cond.arrayClass .int ∈ wsX0_init := by decide +kernel
theorem naX2_init_i : Cond.arrayClass .int ∈ wsX2_init := by decide +kernel
theorem naX2_init_z : Cond.arrayClass .boolean ∈ wsX2_init := by decide +kernel
theorem naX3_init_i : Cond.arrayClass .int ∈ wsX3_init := by decide +kernel
theorem naX3_init_z : Cond.arrayClass .boolean ∈ wsX3_init := by decide +kernel
set_option maxHeartbeats 4000000 in
set_option maxRecDepth 100000 in
theorem c_X0_init : IC yX0_init wsX0_init { frames := 1, cells := 2, slots := 16, locals := 20 } (oE 0 11 (fun j => defaultValue (tyX0 j))) 3 (fun cy x => ecE cy x) 2 16 := by
  refine IC.of (by decide) rfl rfl rfl (by decide) ?_
  intro X D cy x hC hR hK hN ha hb hn hA hE
  simp only [List.replicate, Nat.reduceSub]
  refine po_aload_n hC dX0_init_0 rfl ?_
  refine po_objInit hC liX0_init li2X0_init li3X0_init rfl (by rw [hR]; exact ⟨by decide, by decide⟩) dX0_init_1 ?_
  refine po_aload_n hC dX0_init_4 rfl ?_
  refine po_bipush (v := 8) hC dX0_init_5 (by decide) ?_
  refine po_newi hC hK naX0_init_i 8 (by decide) (by decide) (by decide) (by rw [hR]; decide) (by rw [hR]; decide) dX0_init_7 ?_
  simp only [Nat.reduceAdd]
  refine po_putF (T := TX0) (ci := 0) hC hK hA 0 0 kwX0_init_0 tyX0 tyX0_ok nmX0 rfl (by decide) rfl (by decide) lpX0_init_9 rfl hn rfl rfl rfl dX0_init_9 ?_
  refine po_aload_n hC dX0_init_12 rfl ?_
  refine po_bipush (v := 8) hC dX0_init_13 (by decide) ?_
  refine po_newi hC hK naX0_init_i 8 (by decide) (by decide) (by decide) (by rw [hR]; decide) (by rw [hR]; decide) dX0_init_15 ?_
  simp only [Nat.reduceAdd]
  refine po_putF (T := TX0) (ci := 0) hC hK hA 0 1 kwX0_init_0 tyX0 tyX0_ok nmX0 rfl (by decide) rfl (by decide) lpX0_init_15 rfl hn rfl rfl rfl dX0_init_17 ?_
  refine po_aload_n hC dX0_init_20 rfl ?_
  refine po_iconst (v := 1) hC dX0_init_21 (by decide) ?_
  refine po_put (T := TX0) (ci := 0) hC hK hA 0 7 kwX0_init_0 tyX0 tyX0_ok nmX0 rfl (by decide) rfl (by decide) lpX0_init_18 rfl rfl rfl dX0_init_22 ?_
  refine po_mono (fun H h => AF.congr h (fun i hi => ?_)) (hE _ _ _ _ (by decide) (by decide) dX0_init_25)
  match i, hi with
  | 0, _ => rfl
  | 1, _ => rfl
  | 2, _ => rfl
  | n + 3, h => exact absurd h (by omega)
set_option maxHeartbeats 4000000 in
set_option maxRecDepth 100000 in
theorem c_X1_init : IC yX1_init wsX1_init { frames := 2, cells := 7, slots := 56, locals := 40 } (oE 1 15 (fun j => defaultValue (tyX1 j))) 8 (fun cy x => uE cy x 2) 7 56 := by
  refine IC.of (by decide) rfl rfl rfl (by decide) ?_
  intro X D cy x hC hR hK hN ha hb hn hA hE
  simp only [List.replicate, Nat.reduceSub]
  refine po_aload_n hC dX1_init_0 rfl ?_
  refine po_objInit hC liX1_init li2X1_init li3X1_init rfl (by rw [hR]; exact ⟨by decide, by decide⟩) dX1_init_1 ?_
  refine po_aload_n hC dX1_init_4 rfl ?_
  refine po_iconst (v := 2) hC dX1_init_5 (by decide) ?_
  refine po_newq (C := RX0) (t := 2) hC hK clX1_init_9 rfl ha 2 (by decide) (by decide) (by decide) (by rw [hR]; decide) (by rw [hR]; decide) dX1_init_6 ?_
  simp only [Nat.reduceAdd]
  refine po_putF (T := TX1) (ci := 1) hC hK hA 0 0 kwX1_init_1 tyX1 tyX1_ok nmX1 rfl (by decide) rfl (by decide) lpX1_init_11 rfl hn rfl rfl rfl dX1_init_9 ?_
  refine po_iconst (v := 0) hC dX1_init_12 (by decide) ?_
  refine po_istore_n hC 1 dX1_init_13 rfl (Nat.le_of_ble_eq_true rfl) ?_
  simp only [gm_s0, gm_s1]
  refine po_mono (P' := AF D x (2 + 3 * 0) (uE cy x 0)) (fun H h => AF.to h (fun i hi h8 => ?_)) (po_widen (c2 := 1 + 3 * 0) (s2 := 2 + 27 * 0) (by decide) (by decide) ?_)
  · match i, hi with
    | 0, _ => exact h8
    | 1, _ => exact aR_to (fun r hr => by simp) h8
    | n + 2, h => exact absurd h (by omega)
  have lp : (fun j : Nat => PO X (AF D x (2 + 3 * j) (uE cy x j)) (1 + 3 * j) (2 + 27 * j) 14 [some (.ref x), some (.int (nI j))] []) 0 := by
    refine loopN 2 (fun j : Nat => PO X (AF D x (2 + 3 * j) (uE cy x j)) (1 + 3 * j) (2 + 27 * j) 14 [some (.ref x), some (.int (nI j))] []) ?_ (fun j hj ih => ?_)
    · try dsimp only
      refine po_iload_n hC dX1_init_14 rfl ?_
      refine po_iconst (v := 2) hC dX1_init_15 (by decide) ?_
      refine po_icmp_ge hC 38 dX1_init_16 (by decide) (fun h => ?_) (fun h => ?_)
      · exact hE _ _ _ _ (by decide) (by decide) dX1_init_38
      · exact absurd (show nI 2 ≤ nI 2 from nI_le (Nat.le_refl _) (by decide)) h
    · try dsimp only at ih ⊢
      refine po_iload_n hC dX1_init_14 rfl ?_
      refine po_iconst (v := 2) hC dX1_init_15 (by decide) ?_
      refine po_icmp_ge hC 38 dX1_init_16 (by decide) (fun h => ?_) (fun h => ?_)
      · exact absurd h (show ¬ nI 2 ≤ nI j from nI_ge hj (by decide))
      refine po_aload_n hC dX1_init_19 rfl ?_
      refine po_getr (T := TX1) (ci := 1) hC hK 0 0 kwX1_init_1 rfl (by omega) rfl (by decide) rfl lpX1_init_11 dX1_init_20 ?_
      refine po_iload_n hC dX1_init_23 rfl ?_
      refine po_newo (T := TX0) (ci := 0) hC hK kwX1_init_0 tyX0 tyX0_ok clX1_init_9 inX1_init izX1_init rfl (by rw [hR]; show _ ≤ 7; omega) (by rw [hR]; show _ ≤ 56; omega) dX1_init_24 ?_
      refine po_dup hC dX1_init_27 rfl ?_
      refine po_callIN hC hK hN ha hb hA c_X0_init (by simp [eU]) gX1_init_X0_init_n17 rfl ⟨rfl, rfl⟩ izX1_init imX1_init (by decide) (by rw [hR]; exact ⟨by decide, by decide⟩) (by rw [hR]; constructor <;> (simp only []; omega)) rfl (Nat.le_of_ble_eq_true rfl) dX1_init_28 ?_
      refine po_aast (r := (RX0, TX0, 11)) (ci := 0) (t := 2) (N := 2) (f := (fun q => if q < j then some (x + 2 + 3 * q) else none)) (vs := (List.range 11).map (fcF (x + (2 + 3 * j)))) hC hK hA 1 (2 + 3 * j) rfl rfl (by omega) (by omega) ?_ ?_ (vp_in_nI hj (by decide)) dX1_init_31 ?_
      · rw [if_pos (by omega)]; unfold eU; rw [if_neg (by omega)]; rfl
      · rw [if_neg (by omega), Nat.sub_self]; rfl
      refine po_iinc (v := 1) hC dX1_init_32 rfl (by decide) ?_
      simp only [gm_s0, gm_s1]
      refine po_goto hC 14 dX1_init_35 (by decide) ?_
      rw [nI_1]
      refine po_widen (c2 := 1 + 3 * (j + 1)) (s2 := 2 + 27 * (j + 1)) (by omega) (by omega) (po_mono (fun H h => ?_) ih)
      have h9 : AF D x (2 + 3 * (j + 1)) _ H := h
      refine AF.to h9 (fun i hi h8 => ?_)
      unfold eU at h8
      by_cases q1 : i = 1
      · subst q1
        rw [if_pos rfl] at h8
        refine aR_to (fun r hr => ?_) h8
        rw [nI_clamp (by omega)]
        unfold va_up
        by_cases q2 : r = j
        · subst q2; rw [if_pos rfl, if_pos (by omega)]; congr 1; omega
        · rw [if_neg q2]; dsimp only; by_cases q3 : r < j
          · rw [if_pos q3, if_pos (by omega)]
          · rw [if_neg q3, if_neg (by omega)]
      · rw [if_neg q1] at h8
        dsimp only at h8
        by_cases q2 : i < 2 + 3 * j
        · rw [if_pos q2, if_neg (by omega)] at h8
          have h7 : uE cy x (j + 1) i = uE cy x j i := by unfold uE; rw [if_neg q1, if_neg q1]
          rw [h7]; exact h8
        · rw [if_neg q2] at h8
          have h7 : uE cy x (j + 1) i = ecE cy (x + (2 + 3 * j)) (i - (2 + 3 * j)) := by
            unfold uE
            rw [if_neg (by omega), if_neg q1, show (i - 2) / 3 = j by omega, show (i - 2) % 3 = i - (2 + 3 * j) by omega, show x + 2 + 3 * j = x + (2 + 3 * j) by omega]
          rw [h7]; exact h8
  exact lp
set_option maxHeartbeats 4000000 in
set_option maxRecDepth 100000 in
theorem c_X2_init : IC yX2_init wsX2_init { frames := 3, cells := 46, slots := 780, locals := 61 } (oE 2 16 (fun j => defaultValue (tyX2 j))) 47 (fun cy x => fE cy x 5) 46 780 := by
  refine IC.of (by decide) rfl rfl rfl (by decide) ?_
  intro X D cy x hC hR hK hN ha hb hn hA hE
  simp only [List.replicate, Nat.reduceSub]
  refine po_aload_n hC dX2_init_0 rfl ?_
  refine po_objInit hC liX2_init li2X2_init li3X2_init rfl (by rw [hR]; exact ⟨by decide, by decide⟩) dX2_init_1 ?_
  refine po_aload_n hC dX2_init_4 rfl ?_
  refine po_iconst (v := 5) hC dX2_init_5 (by decide) ?_
  refine po_newq (C := RX1) (t := 3) hC hK clX2_init_9 rfl hb 5 (by decide) (by decide) (by decide) (by rw [hR]; decide) (by rw [hR]; decide) dX2_init_6 ?_
  simp only [Nat.reduceAdd]
  refine po_putF (T := TX2) (ci := 2) hC hK hA 0 0 kwX2_init_2 tyX2 tyX2_ok nmX2 rfl (by decide) rfl (by decide) lpX2_init_11 rfl hn rfl rfl rfl dX2_init_9 ?_
  refine po_aload_n hC dX2_init_12 rfl ?_
  refine po_iconst (v := 2) hC dX2_init_13 (by decide) ?_
  refine po_newz hC hK naX2_init_z 2 (by decide) (by decide) (by decide) (by rw [hR]; decide) (by rw [hR]; decide) dX2_init_14 ?_
  simp only [Nat.reduceAdd]
  refine po_putF (T := TX2) (ci := 2) hC hK hA 0 1 kwX2_init_2 tyX2 tyX2_ok nmX2 rfl (by decide) rfl (by decide) lpX2_init_15 rfl hn rfl rfl rfl dX2_init_16 ?_
  refine po_aload_n hC dX2_init_19 rfl ?_
  refine po_sipush (v := 400) hC dX2_init_20 (by decide) ?_
  refine po_newi hC hK naX2_init_i 400 (by decide) (by decide) (by decide) (by rw [hR]; decide) (by rw [hR]; decide) dX2_init_23 ?_
  simp only [Nat.reduceAdd]
  refine po_putF (T := TX2) (ci := 2) hC hK hA 0 2 kwX2_init_2 tyX2 tyX2_ok nmX2 rfl (by decide) rfl (by decide) lpX2_init_19 rfl hn rfl rfl rfl dX2_init_25 ?_
  refine po_aload_n hC dX2_init_28 rfl ?_
  refine po_bipush (v := 8) hC dX2_init_29 (by decide) ?_
  refine po_newi hC hK naX2_init_i 8 (by decide) (by decide) (by decide) (by rw [hR]; decide) (by rw [hR]; decide) dX2_init_31 ?_
  simp only [Nat.reduceAdd]
  refine po_putF (T := TX2) (ci := 2) hC hK hA 0 3 kwX2_init_2 tyX2 tyX2_ok nmX2 rfl (by decide) rfl (by decide) lpX2_init_23 rfl hn rfl rfl rfl dX2_init_33 ?_
  refine po_aload_n hC dX2_init_36 rfl ?_
  refine po_iconst (v := 5) hC dX2_init_37 (by decide) ?_
  refine po_newi hC hK naX2_init_i 5 (by decide) (by decide) (by decide) (by rw [hR]; decide) (by rw [hR]; decide) dX2_init_38 ?_
  simp only [Nat.reduceAdd]
  refine po_putF (T := TX2) (ci := 2) hC hK hA 0 4 kwX2_init_2 tyX2 tyX2_ok nmX2 rfl (by decide) rfl (by decide) lpX2_init_26 rfl hn rfl rfl rfl dX2_init_40 ?_
  refine po_aload_n hC dX2_init_43 rfl ?_
  refine po_iconst (v := 5) hC dX2_init_44 (by decide) ?_
  refine po_newi hC hK naX2_init_i 5 (by decide) (by decide) (by decide) (by rw [hR]; decide) (by rw [hR]; decide) dX2_init_45 ?_
  simp only [Nat.reduceAdd]
  refine po_putF (T := TX2) (ci := 2) hC hK hA 0 5 kwX2_init_2 tyX2 tyX2_ok nmX2 rfl (by decide) rfl (by decide) lpX2_init_29 rfl hn rfl rfl rfl dX2_init_47 ?_
  refine po_iconst (v := 0) hC dX2_init_50 (by decide) ?_
  refine po_istore_n hC 1 dX2_init_51 rfl (Nat.le_of_ble_eq_true rfl) ?_
  simp only [gm_s0, gm_s1]
  refine po_mono (P' := AF D x (7 + 8 * 0) (fE cy x 0)) (fun H h => AF.to h (fun i hi h8 => ?_)) (po_widen (c2 := 6 + 8 * 0) (s2 := 425 + 71 * 0) (by decide) (by decide) ?_)
  · match i, hi with
    | 0, _ => exact h8
    | 1, _ => exact aR_to (fun r hr => by simp) h8
    | 2, _ => exact h8
    | 3, _ => exact h8
    | 4, _ => exact h8
    | 5, _ => exact h8
    | 6, _ => exact h8
    | n + 7, h => exact absurd h (by omega)
  have lp : (fun j : Nat => PO X (AF D x (7 + 8 * j) (fE cy x j)) (6 + 8 * j) (425 + 71 * j) 52 [some (.ref x), some (.int (nI j))] []) 0 := by
    refine loopN 5 (fun j : Nat => PO X (AF D x (7 + 8 * j) (fE cy x j)) (6 + 8 * j) (425 + 71 * j) 52 [some (.ref x), some (.int (nI j))] []) ?_ (fun j hj ih => ?_)
    · try dsimp only
      refine po_iload_n hC dX2_init_52 rfl ?_
      refine po_iconst (v := 5) hC dX2_init_53 (by decide) ?_
      refine po_icmp_ge hC 76 dX2_init_54 (by decide) (fun h => ?_) (fun h => ?_)
      · exact hE _ _ _ _ (by decide) (by decide) dX2_init_76
      · exact absurd (show nI 5 ≤ nI 5 from nI_le (Nat.le_refl _) (by decide)) h
    · try dsimp only at ih ⊢
      refine po_iload_n hC dX2_init_52 rfl ?_
      refine po_iconst (v := 5) hC dX2_init_53 (by decide) ?_
      refine po_icmp_ge hC 76 dX2_init_54 (by decide) (fun h => ?_) (fun h => ?_)
      · exact absurd h (show ¬ nI 5 ≤ nI j from nI_ge hj (by decide))
      refine po_aload_n hC dX2_init_57 rfl ?_
      refine po_getr (T := TX2) (ci := 2) hC hK 0 0 kwX2_init_2 rfl (by omega) rfl (by decide) rfl lpX2_init_11 dX2_init_58 ?_
      refine po_iload_n hC dX2_init_61 rfl ?_
      refine po_newo (T := TX1) (ci := 1) hC hK kwX2_init_1 tyX1 tyX1_ok clX2_init_9 inX2_init izX2_init rfl (by rw [hR]; show _ ≤ 46; omega) (by rw [hR]; show _ ≤ 780; omega) dX2_init_62 ?_
      refine po_dup hC dX2_init_65 rfl ?_
      refine po_callI hC hK hN ha hb hA c_X1_init (by simp [eU]) gX2_init_X1_init rfl ⟨rfl, rfl⟩ izX2_init lcX2_init imX2_init rfl (by decide) (by rw [hR]; exact ⟨by decide, by decide⟩) (by rw [hR]; constructor <;> (simp only []; omega)) rfl (Nat.le_of_ble_eq_true rfl) dX2_init_66 ?_
      refine po_aast (r := (RX1, TX1, 15)) (ci := 1) (t := 3) (N := 5) (f := (fun q => if q < j then some (x + 7 + 8 * q) else none)) (vs := (List.range 15).map (fuF (x + (7 + 8 * j)))) hC hK hA 1 (7 + 8 * j) rfl rfl (by omega) (by omega) ?_ ?_ (vp_in_nI hj (by decide)) dX2_init_69 ?_
      · rw [if_pos (by omega)]; unfold eU; rw [if_neg (by omega)]; rfl
      · rw [if_neg (by omega), Nat.sub_self]; rfl
      refine po_iinc (v := 1) hC dX2_init_70 rfl (by decide) ?_
      simp only [gm_s0, gm_s1]
      refine po_goto hC 52 dX2_init_73 (by decide) ?_
      rw [nI_1]
      refine po_widen (c2 := 6 + 8 * (j + 1)) (s2 := 425 + 71 * (j + 1)) (by omega) (by omega) (po_mono (fun H h => ?_) ih)
      have h9 : AF D x (7 + 8 * (j + 1)) _ H := h
      refine AF.to h9 (fun i hi h8 => ?_)
      unfold eU at h8
      by_cases q1 : i = 1
      · subst q1
        rw [if_pos rfl] at h8
        refine aR_to (fun r hr => ?_) h8
        rw [nI_clamp (by omega)]
        unfold va_up
        by_cases q2 : r = j
        · subst q2; rw [if_pos rfl, if_pos (by omega)]; congr 1; omega
        · rw [if_neg q2]; dsimp only; by_cases q3 : r < j
          · rw [if_pos q3, if_pos (by omega)]
          · rw [if_neg q3, if_neg (by omega)]
      · rw [if_neg q1] at h8
        dsimp only at h8
        by_cases q2 : i < 7 + 8 * j
        · rw [if_pos q2, if_neg (by omega)] at h8
          have h7 : fE cy x (j + 1) i = fE cy x j i := by unfold fE; rw [if_neg q1, if_neg q1]
          rw [h7]; exact h8
        · rw [if_neg q2] at h8
          have h7 : fE cy x (j + 1) i = uE cy (x + (7 + 8 * j)) 2 (i - (7 + 8 * j)) := by
            unfold fE
            rw [if_neg (by omega), if_neg q1, if_neg (by omega), if_neg (by omega), if_neg (by omega), if_neg (by omega), if_neg (by omega), show (i - 7) / 8 = j by omega, show (i - 7) % 8 = i - (7 + 8 * j) by omega, show x + 7 + 8 * j = x + (7 + 8 * j) by omega]
          rw [h7]; exact h8
  exact lp
set_option maxHeartbeats 4000000 in
set_option maxRecDepth 100000 in
theorem c_X3_init : IC yX3_init wsX3_init { frames := 1, cells := 30, slots := 737, locals := 20 } (oE 3 41 (fun j => defaultValue (tyX3 j))) 31 (fun cy x => mE cy x) 30 737 := by
  refine IC.of (by decide) rfl rfl rfl (by decide) ?_
  intro X D cy x hC hR hK hN ha hb hn hA hE
  simp only [List.replicate, Nat.reduceSub]
  refine po_aload_n hC dX3_init_0 rfl ?_
  refine po_objInit hC liX3_init li2X3_init li3X3_init rfl (by rw [hR]; exact ⟨by decide, by decide⟩) dX3_init_1 ?_
  refine po_aload_n hC dX3_init_4 rfl ?_
  refine po_iconst (v := 5) hC dX3_init_5 (by decide) ?_
  refine po_newi hC hK naX3_init_i 5 (by decide) (by decide) (by decide) (by rw [hR]; decide) (by rw [hR]; decide) dX3_init_6 ?_
  simp only [Nat.reduceAdd]
  refine po_put (T := TX3) (ci := 3) hC hK hA 0 1 kwX3_init_3 tyX3 tyX3_ok nmX3 rfl (by decide) rfl (by decide) lpX3_init_7 rfl rfl rfl dX3_init_8 ?_
  refine po_aload_n hC dX3_init_11 rfl ?_
  refine po_iconst (v := 5) hC dX3_init_12 (by decide) ?_
  refine po_newi hC hK naX3_init_i 5 (by decide) (by decide) (by decide) (by rw [hR]; decide) (by rw [hR]; decide) dX3_init_13 ?_
  simp only [Nat.reduceAdd]
  refine po_put (T := TX3) (ci := 3) hC hK hA 0 2 kwX3_init_3 tyX3 tyX3_ok nmX3 rfl (by decide) rfl (by decide) lpX3_init_13 rfl rfl rfl dX3_init_15 ?_
  refine po_aload_n hC dX3_init_18 rfl ?_
  refine po_iconst (v := 5) hC dX3_init_19 (by decide) ?_
  refine po_newi hC hK naX3_init_i 5 (by decide) (by decide) (by decide) (by rw [hR]; decide) (by rw [hR]; decide) dX3_init_20 ?_
  simp only [Nat.reduceAdd]
  refine po_put (T := TX3) (ci := 3) hC hK hA 0 3 kwX3_init_3 tyX3 tyX3_ok nmX3 rfl (by decide) rfl (by decide) lpX3_init_16 rfl rfl rfl dX3_init_22 ?_
  refine po_aload_n hC dX3_init_25 rfl ?_
  refine po_iconst (v := 5) hC dX3_init_26 (by decide) ?_
  refine po_newi hC hK naX3_init_i 5 (by decide) (by decide) (by decide) (by rw [hR]; decide) (by rw [hR]; decide) dX3_init_27 ?_
  simp only [Nat.reduceAdd]
  refine po_put (T := TX3) (ci := 3) hC hK hA 0 4 kwX3_init_3 tyX3 tyX3_ok nmX3 rfl (by decide) rfl (by decide) lpX3_init_19 rfl rfl rfl dX3_init_29 ?_
  refine po_aload_n hC dX3_init_32 rfl ?_
  refine po_iconst (v := 5) hC dX3_init_33 (by decide) ?_
  refine po_newi hC hK naX3_init_i 5 (by decide) (by decide) (by decide) (by rw [hR]; decide) (by rw [hR]; decide) dX3_init_34 ?_
  simp only [Nat.reduceAdd]
  refine po_put (T := TX3) (ci := 3) hC hK hA 0 5 kwX3_init_3 tyX3 tyX3_ok nmX3 rfl (by decide) rfl (by decide) lpX3_init_22 rfl rfl rfl dX3_init_36 ?_
  refine po_aload_n hC dX3_init_39 rfl ?_
  refine po_iconst (v := 5) hC dX3_init_40 (by decide) ?_
  refine po_newz hC hK naX3_init_z 5 (by decide) (by decide) (by decide) (by rw [hR]; decide) (by rw [hR]; decide) dX3_init_41 ?_
  simp only [Nat.reduceAdd]
  refine po_put (T := TX3) (ci := 3) hC hK hA 0 6 kwX3_init_3 tyX3 tyX3_ok nmX3 rfl (by decide) rfl (by decide) lpX3_init_25 rfl rfl rfl dX3_init_43 ?_
  refine po_aload_n hC dX3_init_46 rfl ?_
  refine po_iconst (v := 2) hC dX3_init_47 (by decide) ?_
  refine po_newz hC hK naX3_init_z 2 (by decide) (by decide) (by decide) (by rw [hR]; decide) (by rw [hR]; decide) dX3_init_48 ?_
  simp only [Nat.reduceAdd]
  refine po_put (T := TX3) (ci := 3) hC hK hA 0 8 kwX3_init_3 tyX3 tyX3_ok nmX3 rfl (by decide) rfl (by decide) lpX3_init_29 rfl rfl rfl dX3_init_50 ?_
  refine po_aload_n hC dX3_init_53 rfl ?_
  refine po_iconst (v := 5) hC dX3_init_54 (by decide) ?_
  refine po_newi hC hK naX3_init_i 5 (by decide) (by decide) (by decide) (by rw [hR]; decide) (by rw [hR]; decide) dX3_init_55 ?_
  simp only [Nat.reduceAdd]
  refine po_put (T := TX3) (ci := 3) hC hK hA 0 12 kwX3_init_3 tyX3 tyX3_ok nmX3 rfl (by decide) rfl (by decide) lpX3_init_32 rfl rfl rfl dX3_init_57 ?_
  refine po_aload_n hC dX3_init_60 rfl ?_
  refine po_iconst (v := 5) hC dX3_init_61 (by decide) ?_
  refine po_newi hC hK naX3_init_i 5 (by decide) (by decide) (by decide) (by rw [hR]; decide) (by rw [hR]; decide) dX3_init_62 ?_
  simp only [Nat.reduceAdd]
  refine po_put (T := TX3) (ci := 3) hC hK hA 0 13 kwX3_init_3 tyX3 tyX3_ok nmX3 rfl (by decide) rfl (by decide) lpX3_init_35 rfl rfl rfl dX3_init_64 ?_
  refine po_aload_n hC dX3_init_67 rfl ?_
  refine po_iconst (v := 5) hC dX3_init_68 (by decide) ?_
  refine po_newi hC hK naX3_init_i 5 (by decide) (by decide) (by decide) (by rw [hR]; decide) (by rw [hR]; decide) dX3_init_69 ?_
  simp only [Nat.reduceAdd]
  refine po_put (T := TX3) (ci := 3) hC hK hA 0 14 kwX3_init_3 tyX3 tyX3_ok nmX3 rfl (by decide) rfl (by decide) lpX3_init_38 rfl rfl rfl dX3_init_71 ?_
  refine po_aload_n hC dX3_init_74 rfl ?_
  refine po_iconst (v := 5) hC dX3_init_75 (by decide) ?_
  refine po_newz hC hK naX3_init_z 5 (by decide) (by decide) (by decide) (by rw [hR]; decide) (by rw [hR]; decide) dX3_init_76 ?_
  simp only [Nat.reduceAdd]
  refine po_put (T := TX3) (ci := 3) hC hK hA 0 15 kwX3_init_3 tyX3 tyX3_ok nmX3 rfl (by decide) rfl (by decide) lpX3_init_41 rfl rfl rfl dX3_init_78 ?_
  refine po_aload_n hC dX3_init_81 rfl ?_
  refine po_iconst (v := 5) hC dX3_init_82 (by decide) ?_
  refine po_newi hC hK naX3_init_i 5 (by decide) (by decide) (by decide) (by rw [hR]; decide) (by rw [hR]; decide) dX3_init_83 ?_
  simp only [Nat.reduceAdd]
  refine po_put (T := TX3) (ci := 3) hC hK hA 0 16 kwX3_init_3 tyX3 tyX3_ok nmX3 rfl (by decide) rfl (by decide) lpX3_init_44 rfl rfl rfl dX3_init_85 ?_
  refine po_aload_n hC dX3_init_88 rfl ?_
  refine po_iconst (v := 5) hC dX3_init_89 (by decide) ?_
  refine po_newi hC hK naX3_init_i 5 (by decide) (by decide) (by decide) (by rw [hR]; decide) (by rw [hR]; decide) dX3_init_90 ?_
  simp only [Nat.reduceAdd]
  refine po_put (T := TX3) (ci := 3) hC hK hA 0 17 kwX3_init_3 tyX3 tyX3_ok nmX3 rfl (by decide) rfl (by decide) lpX3_init_47 rfl rfl rfl dX3_init_92 ?_
  refine po_aload_n hC dX3_init_95 rfl ?_
  refine po_iconst (v := 5) hC dX3_init_96 (by decide) ?_
  refine po_newi hC hK naX3_init_i 5 (by decide) (by decide) (by decide) (by rw [hR]; decide) (by rw [hR]; decide) dX3_init_97 ?_
  simp only [Nat.reduceAdd]
  refine po_put (T := TX3) (ci := 3) hC hK hA 0 18 kwX3_init_3 tyX3 tyX3_ok nmX3 rfl (by decide) rfl (by decide) lpX3_init_50 rfl rfl rfl dX3_init_99 ?_
  refine po_aload_n hC dX3_init_102 rfl ?_
  refine po_bipush (v := 10) hC dX3_init_103 (by decide) ?_
  refine po_newi hC hK naX3_init_i 10 (by decide) (by decide) (by decide) (by rw [hR]; decide) (by rw [hR]; decide) dX3_init_105 ?_
  simp only [Nat.reduceAdd]
  refine po_put (T := TX3) (ci := 3) hC hK hA 0 19 kwX3_init_3 tyX3 tyX3_ok nmX3 rfl (by decide) rfl (by decide) lpX3_init_53 rfl rfl rfl dX3_init_107 ?_
  refine po_aload_n hC dX3_init_110 rfl ?_
  refine po_bipush (v := 10) hC dX3_init_111 (by decide) ?_
  refine po_newi hC hK naX3_init_i 10 (by decide) (by decide) (by decide) (by rw [hR]; decide) (by rw [hR]; decide) dX3_init_113 ?_
  simp only [Nat.reduceAdd]
  refine po_put (T := TX3) (ci := 3) hC hK hA 0 20 kwX3_init_3 tyX3 tyX3_ok nmX3 rfl (by decide) rfl (by decide) lpX3_init_56 rfl rfl rfl dX3_init_115 ?_
  refine po_aload_n hC dX3_init_118 rfl ?_
  refine po_bipush (v := 10) hC dX3_init_119 (by decide) ?_
  refine po_newi hC hK naX3_init_i 10 (by decide) (by decide) (by decide) (by rw [hR]; decide) (by rw [hR]; decide) dX3_init_121 ?_
  simp only [Nat.reduceAdd]
  refine po_put (T := TX3) (ci := 3) hC hK hA 0 21 kwX3_init_3 tyX3 tyX3_ok nmX3 rfl (by decide) rfl (by decide) lpX3_init_59 rfl rfl rfl dX3_init_123 ?_
  refine po_aload_n hC dX3_init_126 rfl ?_
  refine po_bipush (v := 10) hC dX3_init_127 (by decide) ?_
  refine po_newi hC hK naX3_init_i 10 (by decide) (by decide) (by decide) (by rw [hR]; decide) (by rw [hR]; decide) dX3_init_129 ?_
  simp only [Nat.reduceAdd]
  refine po_put (T := TX3) (ci := 3) hC hK hA 0 22 kwX3_init_3 tyX3 tyX3_ok nmX3 rfl (by decide) rfl (by decide) lpX3_init_62 rfl rfl rfl dX3_init_131 ?_
  refine po_aload_n hC dX3_init_134 rfl ?_
  refine po_bipush (v := 10) hC dX3_init_135 (by decide) ?_
  refine po_newi hC hK naX3_init_i 10 (by decide) (by decide) (by decide) (by rw [hR]; decide) (by rw [hR]; decide) dX3_init_137 ?_
  simp only [Nat.reduceAdd]
  refine po_put (T := TX3) (ci := 3) hC hK hA 0 23 kwX3_init_3 tyX3 tyX3_ok nmX3 rfl (by decide) rfl (by decide) lpX3_init_65 rfl rfl rfl dX3_init_139 ?_
  refine po_aload_n hC dX3_init_142 rfl ?_
  refine po_bipush (v := 10) hC dX3_init_143 (by decide) ?_
  refine po_newi hC hK naX3_init_i 10 (by decide) (by decide) (by decide) (by rw [hR]; decide) (by rw [hR]; decide) dX3_init_145 ?_
  simp only [Nat.reduceAdd]
  refine po_put (T := TX3) (ci := 3) hC hK hA 0 24 kwX3_init_3 tyX3 tyX3_ok nmX3 rfl (by decide) rfl (by decide) lpX3_init_68 rfl rfl rfl dX3_init_147 ?_
  refine po_aload_n hC dX3_init_150 rfl ?_
  refine po_bipush (v := 10) hC dX3_init_151 (by decide) ?_
  refine po_newi hC hK naX3_init_i 10 (by decide) (by decide) (by decide) (by rw [hR]; decide) (by rw [hR]; decide) dX3_init_153 ?_
  simp only [Nat.reduceAdd]
  refine po_put (T := TX3) (ci := 3) hC hK hA 0 25 kwX3_init_3 tyX3 tyX3_ok nmX3 rfl (by decide) rfl (by decide) lpX3_init_71 rfl rfl rfl dX3_init_155 ?_
  refine po_aload_n hC dX3_init_158 rfl ?_
  refine po_bipush (v := 10) hC dX3_init_159 (by decide) ?_
  refine po_newi hC hK naX3_init_i 10 (by decide) (by decide) (by decide) (by rw [hR]; decide) (by rw [hR]; decide) dX3_init_161 ?_
  simp only [Nat.reduceAdd]
  refine po_put (T := TX3) (ci := 3) hC hK hA 0 26 kwX3_init_3 tyX3 tyX3_ok nmX3 rfl (by decide) rfl (by decide) lpX3_init_74 rfl rfl rfl dX3_init_163 ?_
  refine po_aload_n hC dX3_init_166 rfl ?_
  refine po_bipush (v := 80) hC dX3_init_167 (by decide) ?_
  refine po_newi hC hK naX3_init_i 80 (by decide) (by decide) (by decide) (by rw [hR]; decide) (by rw [hR]; decide) dX3_init_169 ?_
  simp only [Nat.reduceAdd]
  refine po_put (T := TX3) (ci := 3) hC hK hA 0 27 kwX3_init_3 tyX3 tyX3_ok nmX3 rfl (by decide) rfl (by decide) lpX3_init_77 rfl rfl rfl dX3_init_171 ?_
  refine po_aload_n hC dX3_init_174 rfl ?_
  refine po_bipush (v := 100) hC dX3_init_175 (by decide) ?_
  refine po_newi hC hK naX3_init_i 100 (by decide) (by decide) (by decide) (by rw [hR]; decide) (by rw [hR]; decide) dX3_init_177 ?_
  simp only [Nat.reduceAdd]
  refine po_put (T := TX3) (ci := 3) hC hK hA 0 29 kwX3_init_3 tyX3 tyX3_ok nmX3 rfl (by decide) rfl (by decide) lpX3_init_80 rfl rfl rfl dX3_init_179 ?_
  refine po_aload_n hC dX3_init_182 rfl ?_
  refine po_bipush (v := 100) hC dX3_init_183 (by decide) ?_
  refine po_newz hC hK naX3_init_z 100 (by decide) (by decide) (by decide) (by rw [hR]; decide) (by rw [hR]; decide) dX3_init_185 ?_
  simp only [Nat.reduceAdd]
  refine po_put (T := TX3) (ci := 3) hC hK hA 0 30 kwX3_init_3 tyX3 tyX3_ok nmX3 rfl (by decide) rfl (by decide) lpX3_init_83 rfl rfl rfl dX3_init_187 ?_
  refine po_aload_n hC dX3_init_190 rfl ?_
  refine po_bipush (v := 100) hC dX3_init_191 (by decide) ?_
  refine po_newi hC hK naX3_init_i 100 (by decide) (by decide) (by decide) (by rw [hR]; decide) (by rw [hR]; decide) dX3_init_193 ?_
  simp only [Nat.reduceAdd]
  refine po_put (T := TX3) (ci := 3) hC hK hA 0 32 kwX3_init_3 tyX3 tyX3_ok nmX3 rfl (by decide) rfl (by decide) lpX3_init_86 rfl rfl rfl dX3_init_195 ?_
  refine po_aload_n hC dX3_init_198 rfl ?_
  refine po_bipush (v := 100) hC dX3_init_199 (by decide) ?_
  refine po_newi hC hK naX3_init_i 100 (by decide) (by decide) (by decide) (by rw [hR]; decide) (by rw [hR]; decide) dX3_init_201 ?_
  simp only [Nat.reduceAdd]
  refine po_put (T := TX3) (ci := 3) hC hK hA 0 33 kwX3_init_3 tyX3 tyX3_ok nmX3 rfl (by decide) rfl (by decide) lpX3_init_89 rfl rfl rfl dX3_init_203 ?_
  refine po_aload_n hC dX3_init_206 rfl ?_
  refine po_bipush (v := 100) hC dX3_init_207 (by decide) ?_
  refine po_newi hC hK naX3_init_i 100 (by decide) (by decide) (by decide) (by rw [hR]; decide) (by rw [hR]; decide) dX3_init_209 ?_
  simp only [Nat.reduceAdd]
  refine po_put (T := TX3) (ci := 3) hC hK hA 0 34 kwX3_init_3 tyX3 tyX3_ok nmX3 rfl (by decide) rfl (by decide) lpX3_init_92 rfl rfl rfl dX3_init_211 ?_
  refine po_aload_n hC dX3_init_214 rfl ?_
  refine po_iconst (v := 5) hC dX3_init_215 (by decide) ?_
  refine po_newi hC hK naX3_init_i 5 (by decide) (by decide) (by decide) (by rw [hR]; decide) (by rw [hR]; decide) dX3_init_216 ?_
  simp only [Nat.reduceAdd]
  refine po_put (T := TX3) (ci := 3) hC hK hA 0 39 kwX3_init_3 tyX3 tyX3_ok nmX3 rfl (by decide) rfl (by decide) lpX3_init_95 rfl rfl rfl dX3_init_218 ?_
  refine po_aload_n hC dX3_init_221 rfl ?_
  refine po_iconst (v := 5) hC dX3_init_222 (by decide) ?_
  refine po_newi hC hK naX3_init_i 5 (by decide) (by decide) (by decide) (by rw [hR]; decide) (by rw [hR]; decide) dX3_init_223 ?_
  simp only [Nat.reduceAdd]
  refine po_put (T := TX3) (ci := 3) hC hK hA 0 40 kwX3_init_3 tyX3 tyX3_ok nmX3 rfl (by decide) rfl (by decide) lpX3_init_98 rfl rfl rfl dX3_init_225 ?_
  refine po_mono (fun H h => AF.congr h (fun i hi => ?_)) (hE _ _ _ _ (by decide) (by decide) dX3_init_228)
  match i, hi with
  | 0, _ => rfl
  | 1, _ => rfl
  | 2, _ => rfl
  | 3, _ => rfl
  | 4, _ => rfl
  | 5, _ => rfl
  | 6, _ => rfl
  | 7, _ => rfl
  | 8, _ => rfl
  | 9, _ => rfl
  | 10, _ => rfl
  | 11, _ => rfl
  | 12, _ => rfl
  | 13, _ => rfl
  | 14, _ => rfl
  | 15, _ => rfl
  | 16, _ => rfl
  | 17, _ => rfl
  | 18, _ => rfl
  | 19, _ => rfl
  | 20, _ => rfl
  | 21, _ => rfl
  | 22, _ => rfl
  | 23, _ => rfl
  | 24, _ => rfl
  | 25, _ => rfl
  | 26, _ => rfl
  | 27, _ => rfl
  | 28, _ => rfl
  | 29, _ => rfl
  | 30, _ => rfl
  | n + 31, h => exact absurd h (by omega)
