/-! ===== the class: units ===== -/
def uClr0 (M : gm_M) (n : Nat) : gm_M := gm_up (gm_up (gm_up (gm_up (gm_up (gm_up (gm_up (gm_up (gm_up (gm_up (gm_up (gm_up (gm_up (gm_up M 1 1 n 0) 1 2 n 0) 1 3 n 0) 1 4 n 0) 1 5 n 0) 1 6 n 0) 1 7 n 0) 1 8 n 0) 1 9 n 0) 1 10 n 0) 1 11 n 0) 1 12 n 0) 1 13 n 0) 1 14 n 0
def uClear (M : gm_M) (n : Nat) : gm_M := iter (fun k M => cClear M (2 * n + k)) 2 (uClr0 M n)
theorem kwX1_clear_1 : ∀ w ∈ wsX10, w ∈ wsX1_clear := by decide +kernel
theorem lkX1_clear_11 : Cond.fieldLink RX1 11 "SharedFibre$Unit" "containers" "[LSharedFibre$Container;" ∈ wsX1_clear := by decide +kernel
theorem lkX1_clear_18 : Cond.fieldLink RX1 18 "SharedFibre$Unit" "state" "I" ∈ wsX1_clear := by decide +kernel
theorem lkX1_clear_22 : Cond.fieldLink RX1 22 "SharedFibre$Unit" "serial" "I" ∈ wsX1_clear := by decide +kernel
theorem lkX1_clear_25 : Cond.fieldLink RX1 25 "SharedFibre$Unit" "way" "I" ∈ wsX1_clear := by decide +kernel
theorem lkX1_clear_28 : Cond.fieldLink RX1 28 "SharedFibre$Unit" "answered" "I" ∈ wsX1_clear := by decide +kernel
theorem lkX1_clear_31 : Cond.fieldLink RX1 31 "SharedFibre$Unit" "error" "I" ∈ wsX1_clear := by decide +kernel
theorem lkX1_clear_34 : Cond.fieldLink RX1 34 "SharedFibre$Unit" "keyInForce" "I" ∈ wsX1_clear := by decide +kernel
theorem lkX1_clear_37 : Cond.fieldLink RX1 37 "SharedFibre$Unit" "keyWaits" "Z" ∈ wsX1_clear := by decide +kernel
theorem lkX1_clear_41 : Cond.fieldLink RX1 41 "SharedFibre$Unit" "waitingKey" "I" ∈ wsX1_clear := by decide +kernel
theorem lkX1_clear_44 : Cond.fieldLink RX1 44 "SharedFibre$Unit" "toldKey" "I" ∈ wsX1_clear := by decide +kernel
theorem lkX1_clear_47 : Cond.fieldLink RX1 47 "SharedFibre$Unit" "wordWaits" "Z" ∈ wsX1_clear := by decide +kernel
theorem lkX1_clear_50 : Cond.fieldLink RX1 50 "SharedFibre$Unit" "waitingWord" "I" ∈ wsX1_clear := by decide +kernel
theorem lkX1_clear_53 : Cond.fieldLink RX1 53 "SharedFibre$Unit" "madeOut" "I" ∈ wsX1_clear := by decide +kernel
theorem lkX1_clear_56 : Cond.fieldLink RX1 56 "SharedFibre$Unit" "sentAs" "I" ∈ wsX1_clear := by decide +kernel
theorem lkX1_clear_59 : Cond.fieldLink RX1 59 "SharedFibre$Unit" "spoilt" "Z" ∈ wsX1_clear := by decide +kernel
set_option maxHeartbeats 4000000 in
set_option maxRecDepth 100000 in
/-- Unit.clear -/
theorem c_X1_clear (M : gm_M) (n : Nat) (hn : n < 5) : KC lyC yX1_clear wsX1_clear ({ frames := 1, cells := 0, slots := 0, locals := 20 }) (fun ad => [.ref (ad 1 n)]) M (fun _ => none) (uClear M n) := by
  refine KC.of_v (by decide) rfl rfl (fun _ => by simp) (fun _ => by simp [Value.category])  ?_
  intro X hC hR hX hE
  simp only [List.map_cons, List.map_nil, List.cons_append, List.nil_append, List.length_cons, List.length_nil, List.replicate, Nat.reduceAdd, Nat.reduceSub]
  have lp80 : (fun j : Nat => GO lyC X 0 0 80 [some (.ref (gm_ad X 1 n)), some (.ref (gm_ad X 9 n)), some (.int 2), some (.int (nI j)), none] [] (iter (fun k M => cClear M (2 * n + k)) j (uClr0 M n))) 0 := by
    refine loopN (2) (fun j : Nat => GO lyC X 0 0 80 [some (.ref (gm_ad X 1 n)), some (.ref (gm_ad X 9 n)), some (.int 2), some (.int (nI j)), none] [] (iter (fun k M => cClear M (2 * n + k)) j (uClr0 M n))) ?_ (fun j hj ih => ?_)
    · try dsimp only
      refine go_iload_n hC dX1_clear_80 rfl ?_
      refine go_iload_n hC dX1_clear_81 rfl ?_
      refine go_icmp_ge hC 101 dX1_clear_82 (by decide) (fun h82 => ?_) (fun h82 => ?_)
      ·
        refine go_cast ?_ ?_ (hE _ _ dX1_clear_101)
        · first | rfl | (simp [*]; done) | (simp [*, gm_us, gm_un1, gm_un2]; done)
        · first | rfl | (simp [*]; done) | (simp [*, gm_us, gm_un1, gm_un2]; done)
      ·
        exact absurd (show nI 2 ≤ nI 2 from nI_le (Nat.le_refl _) (by decide)) h82
    · try dsimp only at ih ⊢
      refine go_iload_n hC dX1_clear_80 rfl ?_
      refine go_iload_n hC dX1_clear_81 rfl ?_
      refine go_icmp_ge hC 101 dX1_clear_82 (by decide) (fun h82 => ?_) (fun h82 => ?_)
      ·
        exact absurd h82 (show ¬ nI 2 ≤ nI j from nI_ge hj (by decide))
      ·
        refine go_aload_n hC dX1_clear_85 rfl ?_
        refine go_iload_n hC dX1_clear_86 rfl ?_
        refine go_aald hC rfl (fun _ => rfl) (by first | decide | (show _ < 5; omega) | (show _ < 10; omega) | omega) (gm_in rfl (by omega) (by decide)) (gm_cl5 rfl (by omega)) dX1_clear_87 ?_
        refine go_astore hC dX1_clear_88 (Nat.le_of_ble_eq_true rfl) ?_
        simp only [gm_s0, gm_s1]
        refine go_aload hC dX1_clear_90 rfl ?_
        refine go_callV (n := 0) (k0 := 0) (n0 := 2 * n + j) hC hX (c_X0_clear _ _ (by omega)) gX1_clear_X0_clear rfl (by decide +kernel) ⟨rfl, rfl⟩ (by rw [hR]; exact ⟨by decide, by decide⟩) (by rw [hR]; exact ⟨by decide, by decide⟩) rfl rfl rfl (by first | decide | (show _ < 5; omega) | (show _ < 10; omega) | omega) rfl rfl rfl (Nat.le_of_ble_eq_true rfl) dX1_clear_92 ?_
        simp only [gm_r0, gm_r1]
        refine go_iinc (v := 1) hC dX1_clear_95 rfl (by decide) ?_
        simp only [gm_s0, gm_s1]
        refine go_goto hC 80 dX1_clear_98 (by decide) ?_
        rw [nI_1]
        refine go_sub ih ?_
        repeat (first | exact gm_le_nil | refine gm_le_c ?_ | refine gm_le_n ?_)
  try dsimp only at lp80
  refine go_aload_n hC dX1_clear_0 rfl ?_
  refine go_iconst (v := 0) hC dX1_clear_1 (by decide) ?_
  refine go_puti (ci := 1) hC 1 kwX1_clear_1 rfl tyX1 tyX1_ok nmX1 rfl (by decide) rfl lkX1_clear_18 (by first | decide | (show _ < 5; omega) | (show _ < 10; omega) | omega) rfl rfl rfl dX1_clear_2 ?_
  refine go_aload_n hC dX1_clear_5 rfl ?_
  refine go_iconst (v := 0) hC dX1_clear_6 (by decide) ?_
  refine go_puti (ci := 1) hC 2 kwX1_clear_1 rfl tyX1 tyX1_ok nmX1 rfl (by decide) rfl lkX1_clear_22 (by first | decide | (show _ < 5; omega) | (show _ < 10; omega) | omega) rfl rfl rfl dX1_clear_7 ?_
  refine go_aload_n hC dX1_clear_10 rfl ?_
  refine go_iconst (v := 0) hC dX1_clear_11 (by decide) ?_
  refine go_puti (ci := 1) hC 3 kwX1_clear_1 rfl tyX1 tyX1_ok nmX1 rfl (by decide) rfl lkX1_clear_25 (by first | decide | (show _ < 5; omega) | (show _ < 10; omega) | omega) rfl rfl rfl dX1_clear_12 ?_
  refine go_aload_n hC dX1_clear_15 rfl ?_
  refine go_iconst (v := 0) hC dX1_clear_16 (by decide) ?_
  refine go_puti (ci := 1) hC 4 kwX1_clear_1 rfl tyX1 tyX1_ok nmX1 rfl (by decide) rfl lkX1_clear_28 (by first | decide | (show _ < 5; omega) | (show _ < 10; omega) | omega) rfl rfl rfl dX1_clear_17 ?_
  refine go_aload_n hC dX1_clear_20 rfl ?_
  refine go_iconst (v := 0) hC dX1_clear_21 (by decide) ?_
  refine go_puti (ci := 1) hC 5 kwX1_clear_1 rfl tyX1 tyX1_ok nmX1 rfl (by decide) rfl lkX1_clear_31 (by first | decide | (show _ < 5; omega) | (show _ < 10; omega) | omega) rfl rfl rfl dX1_clear_22 ?_
  refine go_aload_n hC dX1_clear_25 rfl ?_
  refine go_iconst (v := 0) hC dX1_clear_26 (by decide) ?_
  refine go_puti (ci := 1) hC 6 kwX1_clear_1 rfl tyX1 tyX1_ok nmX1 rfl (by decide) rfl lkX1_clear_34 (by first | decide | (show _ < 5; omega) | (show _ < 10; omega) | omega) rfl rfl rfl dX1_clear_27 ?_
  refine go_aload_n hC dX1_clear_30 rfl ?_
  refine go_iconst (v := 0) hC dX1_clear_31 (by decide) ?_
  refine go_puti (ci := 1) hC 7 kwX1_clear_1 rfl tyX1 tyX1_ok nmX1 rfl (by decide) rfl lkX1_clear_37 (by first | decide | (show _ < 5; omega) | (show _ < 10; omega) | omega) rfl (by decide) (by decide) dX1_clear_32 ?_
  refine go_aload_n hC dX1_clear_35 rfl ?_
  refine go_iconst (v := 0) hC dX1_clear_36 (by decide) ?_
  refine go_puti (ci := 1) hC 8 kwX1_clear_1 rfl tyX1 tyX1_ok nmX1 rfl (by decide) rfl lkX1_clear_41 (by first | decide | (show _ < 5; omega) | (show _ < 10; omega) | omega) rfl rfl rfl dX1_clear_37 ?_
  refine go_aload_n hC dX1_clear_40 rfl ?_
  refine go_iconst (v := 0) hC dX1_clear_41 (by decide) ?_
  refine go_puti (ci := 1) hC 9 kwX1_clear_1 rfl tyX1 tyX1_ok nmX1 rfl (by decide) rfl lkX1_clear_44 (by first | decide | (show _ < 5; omega) | (show _ < 10; omega) | omega) rfl rfl rfl dX1_clear_42 ?_
  refine go_aload_n hC dX1_clear_45 rfl ?_
  refine go_iconst (v := 0) hC dX1_clear_46 (by decide) ?_
  refine go_puti (ci := 1) hC 10 kwX1_clear_1 rfl tyX1 tyX1_ok nmX1 rfl (by decide) rfl lkX1_clear_47 (by first | decide | (show _ < 5; omega) | (show _ < 10; omega) | omega) rfl (by decide) (by decide) dX1_clear_47 ?_
  refine go_aload_n hC dX1_clear_50 rfl ?_
  refine go_iconst (v := 0) hC dX1_clear_51 (by decide) ?_
  refine go_puti (ci := 1) hC 11 kwX1_clear_1 rfl tyX1 tyX1_ok nmX1 rfl (by decide) rfl lkX1_clear_50 (by first | decide | (show _ < 5; omega) | (show _ < 10; omega) | omega) rfl rfl rfl dX1_clear_52 ?_
  refine go_aload_n hC dX1_clear_55 rfl ?_
  refine go_iconst (v := 0) hC dX1_clear_56 (by decide) ?_
  refine go_puti (ci := 1) hC 12 kwX1_clear_1 rfl tyX1 tyX1_ok nmX1 rfl (by decide) rfl lkX1_clear_53 (by first | decide | (show _ < 5; omega) | (show _ < 10; omega) | omega) rfl rfl rfl dX1_clear_57 ?_
  refine go_aload_n hC dX1_clear_60 rfl ?_
  refine go_iconst (v := 0) hC dX1_clear_61 (by decide) ?_
  refine go_puti (ci := 1) hC 13 kwX1_clear_1 rfl tyX1 tyX1_ok nmX1 rfl (by decide) rfl lkX1_clear_56 (by first | decide | (show _ < 5; omega) | (show _ < 10; omega) | omega) rfl rfl rfl dX1_clear_62 ?_
  refine go_aload_n hC dX1_clear_65 rfl ?_
  refine go_iconst (v := 0) hC dX1_clear_66 (by decide) ?_
  refine go_puti (ci := 1) hC 14 kwX1_clear_1 rfl tyX1 tyX1_ok nmX1 rfl (by decide) rfl lkX1_clear_59 (by first | decide | (show _ < 5; omega) | (show _ < 10; omega) | omega) rfl (by decide) (by decide) dX1_clear_67 ?_
  refine go_aload_n hC dX1_clear_70 rfl ?_
  refine go_getr (ci := 1) hC 0 kwX1_clear_1 rfl rfl (by decide) rfl lkX1_clear_11 (by first | decide | (show _ < 5; omega) | (show _ < 10; omega) | omega) dX1_clear_71 ?_
  refine go_astore_n hC 1 dX1_clear_74 rfl (Nat.le_of_ble_eq_true rfl) ?_
  simp only [gm_s0, gm_s1]
  refine go_aload_n hC dX1_clear_75 rfl ?_
  refine go_alenr (v := 2) hC rfl (fun _ => rfl) (by first | decide | (show _ < 5; omega) | (show _ < 10; omega) | omega) (by decide) dX1_clear_76 ?_
  refine go_istore_n hC 2 dX1_clear_77 rfl (Nat.le_of_ble_eq_true rfl) ?_
  simp only [gm_s0, gm_s1]
  refine go_iconst (v := 0) hC dX1_clear_78 (by decide) ?_
  refine go_istore_n hC 3 dX1_clear_79 rfl (Nat.le_of_ble_eq_true rfl) ?_
  simp only [gm_s0, gm_s1]
  exact lp80
theorem kwX1_answerWindow_1 : ∀ w ∈ wsX10, w ∈ wsX1_answerWindow := by decide +kernel
theorem lkX1_answerWindow_22 : Cond.fieldLink RX1 22 "SharedFibre$Unit" "serial" "I" ∈ wsX1_answerWindow := by decide +kernel
theorem lkX1_answerWindow_28 : Cond.fieldLink RX1 28 "SharedFibre$Unit" "answered" "I" ∈ wsX1_answerWindow := by decide +kernel
theorem lsX1_answerWindow_in : Cond.initialized yX2_mix.cls ∈ wsX1_answerWindow := by decide +kernel
theorem lsX1_answerWindow_st : Cond.static yX2_mix ∈ wsX1_answerWindow := by decide +kernel
set_option maxHeartbeats 4000000 in
set_option maxRecDepth 100000 in
/-- Unit.answerWindow -/
theorem c_X1_answerWindow (M : gm_M) (n : Nat) (hn : n < 5) : KC lyC yX1_answerWindow wsX1_answerWindow ({ frames := 1, cells := 0, slots := 0, locals := 22 }) (fun ad => [.ref (ad 1 n)]) M (fun _ => some (.int (winF (M 1 2 n) (M 1 4 n)))) (M) := by
  refine KC.of_i (by decide) rfl rfl (fun _ => by simp) (fun _ => by simp [Value.category])  ?_
  intro X hC hR hX hE
  simp only [List.map_cons, List.map_nil, List.cons_append, List.nil_append, List.length_cons, List.length_nil, List.replicate, Nat.reduceAdd, Nat.reduceSub]
  refine go_aload_n hC dX1_answerWindow_0 rfl ?_
  refine go_geti (ci := 1) hC 2 kwX1_answerWindow_1 rfl rfl (by decide) rfl lkX1_answerWindow_22 (by first | decide | (show _ < 5; omega) | (show _ < 10; omega) | omega) dX1_answerWindow_1 ?_
  refine go_aload_n hC dX1_answerWindow_4 rfl ?_
  refine go_geti (ci := 1) hC 4 kwX1_answerWindow_1 rfl rfl (by decide) rfl lkX1_answerWindow_28 (by first | decide | (show _ < 5; omega) | (show _ < 10; omega) | omega) dX1_answerWindow_5 ?_
  refine go_callN (n := 2) hC hX (c_X2_mix _ _ _) gX1_answerWindow_X2_mix_n65 lsX1_answerWindow_st lsX1_answerWindow_in rfl (by decide +kernel) ⟨rfl, rfl⟩ (by rw [hR]; exact ⟨by decide, by decide⟩) (by rw [hR]; exact ⟨by decide, by decide⟩) rfl rfl rfl rfl (Nat.le_of_ble_eq_true rfl) dX1_answerWindow_8 ?_
  simp only [gm_r0, gm_r1]
  refine go_iconst (v := 1) hC dX1_answerWindow_11 (by decide) ?_
  refine go_iushr hC dX1_answerWindow_12 ?_
  refine go_bipush (v := 8) hC dX1_answerWindow_13 (by decide) ?_
  refine go_irem hC dX1_answerWindow_15 (by decide) ?_
  refine go_cast ?_ ?_ (hE _ _ dX1_answerWindow_16)
  · first | rfl | (simp [*]; done) | (simp [*, gm_us, gm_un1, gm_un2]; done)
  · first | rfl | (simp [*]; done) | (simp [*, gm_us, gm_un1, gm_un2]; done)
def lenF (M : gm_M) (n : Nat) : Int32 := bx_sum (fun k => 16 * M 0 9 (2 * n + k)) 2 + 16
def lenP (M : gm_M) (n : Nat) : Nat → Int32
  | 0 => 16
  | k + 1 => lenP M n k + 16 * M 0 9 (2 * n + k)
theorem kwX1_burstLength_0 : ∀ w ∈ wsX00, w ∈ wsX1_burstLength := by decide +kernel
theorem kwX1_burstLength_1 : ∀ w ∈ wsX10, w ∈ wsX1_burstLength := by decide +kernel
theorem lkX1_burstLength_11 : Cond.fieldLink RX1 11 "SharedFibre$Unit" "containers" "[LSharedFibre$Container;" ∈ wsX1_burstLength := by decide +kernel
theorem lkX1_burstLength_69 : Cond.fieldLink RX1 69 "SharedFibre$Container" "given" "I" ∈ wsX1_burstLength := by decide +kernel
set_option maxHeartbeats 4000000 in
set_option maxRecDepth 100000 in
/-- Unit.burstLength -/
theorem c_X1_burstLength (M : gm_M) (n : Nat) (hn : n < 5) : KC lyC yX1_burstLength wsX1_burstLength ({ frames := 0, cells := 0, slots := 0, locals := 0 }) (fun ad => [.ref (ad 1 n)]) M (fun _ => some (.int (lenP M n 2))) (M) := by
  refine KC.of_i (by decide) rfl rfl (fun _ => by simp) (fun _ => by simp [Value.category])  ?_
  intro X hC hR hX hE
  simp only [List.map_cons, List.map_nil, List.cons_append, List.nil_append, List.length_cons, List.length_nil, List.replicate, Nat.reduceAdd, Nat.reduceSub]
  have lp14 : (fun j : Nat => GO lyC X 0 0 14 [some (.ref (gm_ad X 1 n)), some (.int (lenP M n j)), some (.ref (gm_ad X 9 n)), some (.int 2), some (.int (nI j)), none] [] M) 0 := by
    refine loopN (2) (fun j : Nat => GO lyC X 0 0 14 [some (.ref (gm_ad X 1 n)), some (.int (lenP M n j)), some (.ref (gm_ad X 9 n)), some (.int 2), some (.int (nI j)), none] [] M) ?_ (fun j hj ih => ?_)
    · try dsimp only
      refine go_iload hC dX1_burstLength_14 rfl ?_
      refine go_iload_n hC dX1_burstLength_16 rfl ?_
      refine go_icmp_ge hC 43 dX1_burstLength_17 (by decide) (fun h17 => ?_) (fun h17 => ?_)
      ·
        refine go_iload_n hC dX1_burstLength_43 rfl ?_
        refine go_cast ?_ ?_ (hE _ _ dX1_burstLength_44)
        · first | rfl | (simp [*]; done) | (simp [*, gm_us, gm_un1, gm_un2]; done)
        · first | rfl | (simp [*]; done) | (simp [*, gm_us, gm_un1, gm_un2]; done)
      ·
        exact absurd (show nI 2 ≤ nI 2 from nI_le (Nat.le_refl _) (by decide)) h17
    · try dsimp only at ih ⊢
      refine go_iload hC dX1_burstLength_14 rfl ?_
      refine go_iload_n hC dX1_burstLength_16 rfl ?_
      refine go_icmp_ge hC 43 dX1_burstLength_17 (by decide) (fun h17 => ?_) (fun h17 => ?_)
      ·
        exact absurd h17 (show ¬ nI 2 ≤ nI j from nI_ge hj (by decide))
      ·
        refine go_aload_n hC dX1_burstLength_20 rfl ?_
        refine go_iload hC dX1_burstLength_21 rfl ?_
        refine go_aald hC rfl (fun _ => rfl) (by first | decide | (show _ < 5; omega) | (show _ < 10; omega) | omega) (gm_in rfl (by omega) (by decide)) (gm_cl5 rfl (by omega)) dX1_burstLength_23 ?_
        refine go_astore hC dX1_burstLength_24 (Nat.le_of_ble_eq_true rfl) ?_
        simp only [gm_s0, gm_s1]
        refine go_iload_n hC dX1_burstLength_26 rfl ?_
        refine go_bipush (v := 16) hC dX1_burstLength_27 (by decide) ?_
        refine go_aload hC dX1_burstLength_29 rfl ?_
        refine go_geti (ci := 0) hC 9 kwX1_burstLength_0 rfl rfl (by decide) rfl lkX1_burstLength_69 (by first | decide | (show _ < 5; omega) | (show _ < 10; omega) | omega) dX1_burstLength_31 ?_
        refine go_imul hC dX1_burstLength_34 ?_
        refine go_iadd hC dX1_burstLength_35 ?_
        refine go_istore_n hC 1 dX1_burstLength_36 rfl (Nat.le_of_ble_eq_true rfl) ?_
        simp only [gm_s0, gm_s1]
        refine go_iinc (v := 1) hC dX1_burstLength_37 rfl (by decide) ?_
        simp only [gm_s0, gm_s1]
        refine go_goto hC 14 dX1_burstLength_40 (by decide) ?_
        rw [nI_1]
        refine go_sub ih ?_
        repeat (first | exact gm_le_nil | refine gm_le_c ?_ | refine gm_le_n ?_)
  try dsimp only at lp14
  refine go_bipush (v := 16) hC dX1_burstLength_0 (by decide) ?_
  refine go_istore_n hC 1 dX1_burstLength_2 rfl (Nat.le_of_ble_eq_true rfl) ?_
  simp only [gm_s0, gm_s1]
  refine go_aload_n hC dX1_burstLength_3 rfl ?_
  refine go_getr (ci := 1) hC 0 kwX1_burstLength_1 rfl rfl (by decide) rfl lkX1_burstLength_11 (by first | decide | (show _ < 5; omega) | (show _ < 10; omega) | omega) dX1_burstLength_4 ?_
  refine go_astore_n hC 2 dX1_burstLength_7 rfl (Nat.le_of_ble_eq_true rfl) ?_
  simp only [gm_s0, gm_s1]
  refine go_aload_n hC dX1_burstLength_8 rfl ?_
  refine go_alenr (v := 2) hC rfl (fun _ => rfl) (by first | decide | (show _ < 5; omega) | (show _ < 10; omega) | omega) (by decide) dX1_burstLength_9 ?_
  refine go_istore_n hC 3 dX1_burstLength_10 rfl (Nat.le_of_ble_eq_true rfl) ?_
  simp only [gm_s0, gm_s1]
  refine go_iconst (v := 0) hC dX1_burstLength_11 (by decide) ?_
  refine go_istore hC dX1_burstLength_12 (Nat.le_of_ble_eq_true rfl) ?_
  simp only [gm_s0, gm_s1]
  exact lp14
def uWord (M : gm_M) (n : Nat) (f : Int32) : gm_M := if M 1 10 n = 0 then M else gm_up (gm_up (gm_up M 1 13 n (M 1 11 n ^^^ mixF (M 1 6 n) f)) 1 12 n ((M 1 11 n ^^^ mixF (M 1 6 n) f) ^^^ mixF (M 1 6 n) f)) 1 10 n 0
theorem kwX1_takeWord_1 : ∀ w ∈ wsX10, w ∈ wsX1_takeWord := by decide +kernel
theorem lkX1_takeWord_34 : Cond.fieldLink RX1 34 "SharedFibre$Unit" "keyInForce" "I" ∈ wsX1_takeWord := by decide +kernel
theorem lkX1_takeWord_47 : Cond.fieldLink RX1 47 "SharedFibre$Unit" "wordWaits" "Z" ∈ wsX1_takeWord := by decide +kernel
theorem lkX1_takeWord_50 : Cond.fieldLink RX1 50 "SharedFibre$Unit" "waitingWord" "I" ∈ wsX1_takeWord := by decide +kernel
theorem lkX1_takeWord_53 : Cond.fieldLink RX1 53 "SharedFibre$Unit" "madeOut" "I" ∈ wsX1_takeWord := by decide +kernel
theorem lkX1_takeWord_56 : Cond.fieldLink RX1 56 "SharedFibre$Unit" "sentAs" "I" ∈ wsX1_takeWord := by decide +kernel
theorem lsX1_takeWord_in : Cond.initialized yX2_mix.cls ∈ wsX1_takeWord := by decide +kernel
theorem lsX1_takeWord_st : Cond.static yX2_mix ∈ wsX1_takeWord := by decide +kernel
set_option maxHeartbeats 4000000 in
set_option maxRecDepth 100000 in
/-- Unit.takeWord -/
theorem c_X1_takeWord (M : gm_M) (n : Nat) (hn : n < 5) (f : Int32) : KC lyC yX1_takeWord wsX1_takeWord ({ frames := 1, cells := 0, slots := 0, locals := 22 }) (fun ad => [.ref (ad 1 n), .int f]) M (fun _ => none) (uWord M n f) := by
  refine KC.of_v (by decide) rfl rfl (fun _ => by simp) (fun _ => by simp [Value.category])  ?_
  intro X hC hR hX hE
  simp only [List.map_cons, List.map_nil, List.cons_append, List.nil_append, List.length_cons, List.length_nil, List.replicate, Nat.reduceAdd, Nat.reduceSub]
  refine go_aload_n hC dX1_takeWord_0 rfl ?_
  refine go_geti (ci := 1) hC 10 kwX1_takeWord_1 rfl rfl (by decide) rfl lkX1_takeWord_47 (by first | decide | (show _ < 5; omega) | (show _ < 10; omega) | omega) dX1_takeWord_1 ?_
  refine go_if_eq hC 41 dX1_takeWord_4 (by decide) (fun h4 => ?_) (fun h4 => ?_)
  ·
    refine go_cast ?_ ?_ (hE _ _ dX1_takeWord_41)
    · first | rfl | (simp [*, uWord]; done) | (simp [*, uWord, gm_us, gm_un1, gm_un2]; done)
    · first | rfl | (simp [*, uWord]; done) | (simp [*, uWord, gm_us, gm_un1, gm_un2]; done)
  ·
    refine go_aload_n hC dX1_takeWord_7 rfl ?_
    refine go_geti (ci := 1) hC 6 kwX1_takeWord_1 rfl rfl (by decide) rfl lkX1_takeWord_34 (by first | decide | (show _ < 5; omega) | (show _ < 10; omega) | omega) dX1_takeWord_8 ?_
    refine go_iload_n hC dX1_takeWord_11 rfl ?_
    refine go_callN (n := 2) hC hX (c_X2_mix _ _ _) gX1_takeWord_X2_mix_n65 lsX1_takeWord_st lsX1_takeWord_in rfl (by decide +kernel) ⟨rfl, rfl⟩ (by rw [hR]; exact ⟨by decide, by decide⟩) (by rw [hR]; exact ⟨by decide, by decide⟩) rfl rfl rfl rfl (Nat.le_of_ble_eq_true rfl) dX1_takeWord_12 ?_
    simp only [gm_r0, gm_r1]
    refine go_istore_n hC 2 dX1_takeWord_15 rfl (Nat.le_of_ble_eq_true rfl) ?_
    simp only [gm_s0, gm_s1]
    refine go_aload_n hC dX1_takeWord_16 rfl ?_
    refine go_aload_n hC dX1_takeWord_17 rfl ?_
    refine go_geti (ci := 1) hC 11 kwX1_takeWord_1 rfl rfl (by decide) rfl lkX1_takeWord_50 (by first | decide | (show _ < 5; omega) | (show _ < 10; omega) | omega) dX1_takeWord_18 ?_
    refine go_iload_n hC dX1_takeWord_21 rfl ?_
    refine go_ixor hC dX1_takeWord_22 ?_
    refine go_puti (ci := 1) hC 13 kwX1_takeWord_1 rfl tyX1 tyX1_ok nmX1 rfl (by decide) rfl lkX1_takeWord_56 (by first | decide | (show _ < 5; omega) | (show _ < 10; omega) | omega) rfl rfl rfl dX1_takeWord_23 ?_
    refine go_aload_n hC dX1_takeWord_26 rfl ?_
    refine go_aload_n hC dX1_takeWord_27 rfl ?_
    refine go_geti (ci := 1) hC 13 kwX1_takeWord_1 rfl rfl (by decide) rfl lkX1_takeWord_56 (by first | decide | (show _ < 5; omega) | (show _ < 10; omega) | omega) dX1_takeWord_28 ?_
    refine go_iload_n hC dX1_takeWord_31 rfl ?_
    refine go_ixor hC dX1_takeWord_32 ?_
    refine go_puti (ci := 1) hC 12 kwX1_takeWord_1 rfl tyX1 tyX1_ok nmX1 rfl (by decide) rfl lkX1_takeWord_53 (by first | decide | (show _ < 5; omega) | (show _ < 10; omega) | omega) rfl rfl rfl dX1_takeWord_33 ?_
    refine go_aload_n hC dX1_takeWord_36 rfl ?_
    refine go_iconst (v := 0) hC dX1_takeWord_37 (by decide) ?_
    refine go_puti (ci := 1) hC 10 kwX1_takeWord_1 rfl tyX1 tyX1_ok nmX1 rfl (by decide) rfl lkX1_takeWord_47 (by first | decide | (show _ < 5; omega) | (show _ < 10; omega) | omega) rfl (by decide) (by decide) dX1_takeWord_38 ?_
    refine go_cast ?_ ?_ (hE _ _ dX1_takeWord_41)
    · first | rfl | (simp [*, uWord]; done) | (simp [*, uWord, gm_us, gm_un1, gm_un2]; done)
    · first | rfl | (simp [*, uWord]; done) | (simp [*, uWord, gm_us, gm_un1, gm_un2]; done)
def uKey (M : gm_M) (n : Nat) : gm_M := if M 1 7 n = 0 then M else if M 1 14 n = 0 then gm_up (gm_up (gm_up M 1 9 n (M 1 8 n)) 1 6 n (M 1 8 n)) 1 7 n 0 else gm_up M 1 9 n (M 1 8 n)
theorem kwX1_takeKey_1 : ∀ w ∈ wsX10, w ∈ wsX1_takeKey := by decide +kernel
theorem lkX1_takeKey_34 : Cond.fieldLink RX1 34 "SharedFibre$Unit" "keyInForce" "I" ∈ wsX1_takeKey := by decide +kernel
theorem lkX1_takeKey_37 : Cond.fieldLink RX1 37 "SharedFibre$Unit" "keyWaits" "Z" ∈ wsX1_takeKey := by decide +kernel
theorem lkX1_takeKey_41 : Cond.fieldLink RX1 41 "SharedFibre$Unit" "waitingKey" "I" ∈ wsX1_takeKey := by decide +kernel
theorem lkX1_takeKey_44 : Cond.fieldLink RX1 44 "SharedFibre$Unit" "toldKey" "I" ∈ wsX1_takeKey := by decide +kernel
theorem lkX1_takeKey_59 : Cond.fieldLink RX1 59 "SharedFibre$Unit" "spoilt" "Z" ∈ wsX1_takeKey := by decide +kernel
set_option maxHeartbeats 4000000 in
set_option maxRecDepth 100000 in
/-- Unit.takeKey -/
theorem c_X1_takeKey (M : gm_M) (n : Nat) (hn : n < 5) : KC lyC yX1_takeKey wsX1_takeKey ({ frames := 0, cells := 0, slots := 0, locals := 0 }) (fun ad => [.ref (ad 1 n)]) M (fun _ => none) (uKey M n) := by
  refine KC.of_v (by decide) rfl rfl (fun _ => by simp) (fun _ => by simp [Value.category])  ?_
  intro X hC hR hX hE
  simp only [List.map_cons, List.map_nil, List.cons_append, List.nil_append, List.length_cons, List.length_nil, List.replicate, Nat.reduceAdd, Nat.reduceSub]
  refine go_aload_n hC dX1_takeKey_0 rfl ?_
  refine go_geti (ci := 1) hC 7 kwX1_takeKey_1 rfl rfl (by decide) rfl lkX1_takeKey_37 (by first | decide | (show _ < 5; omega) | (show _ < 10; omega) | omega) dX1_takeKey_1 ?_
  refine go_if_eq hC 35 dX1_takeKey_4 (by decide) (fun h4 => ?_) (fun h4 => ?_)
  ·
    refine go_cast ?_ ?_ (hE _ _ dX1_takeKey_35)
    · first | rfl | (simp [*, uKey]; done) | (simp [*, uKey, gm_us, gm_un1, gm_un2]; done)
    · first | rfl | (simp [*, uKey]; done) | (simp [*, uKey, gm_us, gm_un1, gm_un2]; done)
  ·
    refine go_aload_n hC dX1_takeKey_7 rfl ?_
    refine go_aload_n hC dX1_takeKey_8 rfl ?_
    refine go_geti (ci := 1) hC 8 kwX1_takeKey_1 rfl rfl (by decide) rfl lkX1_takeKey_41 (by first | decide | (show _ < 5; omega) | (show _ < 10; omega) | omega) dX1_takeKey_9 ?_
    refine go_puti (ci := 1) hC 9 kwX1_takeKey_1 rfl tyX1 tyX1_ok nmX1 rfl (by decide) rfl lkX1_takeKey_44 (by first | decide | (show _ < 5; omega) | (show _ < 10; omega) | omega) rfl rfl rfl dX1_takeKey_12 ?_
    refine go_aload_n hC dX1_takeKey_15 rfl ?_
    refine go_geti (ci := 1) hC 14 kwX1_takeKey_1 rfl rfl (by decide) rfl lkX1_takeKey_59 (by first | decide | (show _ < 5; omega) | (show _ < 10; omega) | omega) dX1_takeKey_16 ?_
    refine go_if_ne hC 35 dX1_takeKey_19 (by decide) (fun h19 => ?_) (fun h19 => ?_)
    ·
      rw [gm_un2 (by decide)] at h19
      refine go_cast ?_ ?_ (hE _ _ dX1_takeKey_35)
      · first | rfl | (simp [*, uKey]; done) | (simp [*, uKey, gm_us, gm_un1, gm_un2]; done)
      · first | rfl | (simp [*, uKey]; done) | (simp [*, uKey, gm_us, gm_un1, gm_un2]; done)
    ·
      rw [gm_un2 (by decide)] at h19
      refine go_aload_n hC dX1_takeKey_22 rfl ?_
      refine go_aload_n hC dX1_takeKey_23 rfl ?_
      refine go_geti (ci := 1) hC 8 kwX1_takeKey_1 rfl rfl (by decide) rfl lkX1_takeKey_41 (by first | decide | (show _ < 5; omega) | (show _ < 10; omega) | omega) dX1_takeKey_24 ?_
      refine go_puti (ci := 1) hC 6 kwX1_takeKey_1 rfl tyX1 tyX1_ok nmX1 rfl (by decide) rfl lkX1_takeKey_34 (by first | decide | (show _ < 5; omega) | (show _ < 10; omega) | omega) rfl rfl rfl dX1_takeKey_27 ?_
      refine go_aload_n hC dX1_takeKey_30 rfl ?_
      refine go_iconst (v := 0) hC dX1_takeKey_31 (by decide) ?_
      refine go_puti (ci := 1) hC 7 kwX1_takeKey_1 rfl tyX1 tyX1_ok nmX1 rfl (by decide) rfl lkX1_takeKey_37 (by first | decide | (show _ < 5; omega) | (show _ < 10; omega) | omega) rfl (by decide) (by decide) dX1_takeKey_32 ?_
      refine go_cast ?_ ?_ (hE _ _ dX1_takeKey_35)
      · first | rfl | (simp [*, uKey]; done) | (simp [*, uKey, gm_us, gm_un1, gm_un2]; done)
      · first | rfl | (simp [*, uKey]; done) | (simp [*, uKey, gm_us, gm_un1, gm_un2]; done)
