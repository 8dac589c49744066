/-! ===== the class: leaves ===== -/
def mixF (a b : Int32) : Int32 := ((((a * 625341585) ^^^ ((a * 625341585).toUInt32 >>> ((15 : Int32).toUInt32 &&& Int32.toUInt32 31)).toInt32) ^^^ b) * (-1640531535)) ^^^ (((((a * 625341585) ^^^ ((a * 625341585).toUInt32 >>> ((15 : Int32).toUInt32 &&& Int32.toUInt32 31)).toInt32) ^^^ b) * (-1640531535)).toUInt32 >>> ((13 : Int32).toUInt32 &&& Int32.toUInt32 31)).toInt32
theorem lcX2_mix_315 : Cond.constant RX2 315 (625341585) ∈ wsX2_mix := by decide +kernel
theorem lcX2_mix_316 : Cond.constant RX2 316 (-1640531535) ∈ wsX2_mix := by decide +kernel
set_option maxHeartbeats 4000000 in
set_option maxRecDepth 100000 in
/-- mix -/
theorem c_X2_mix (M : gm_M) (a b : Int32) : KC lyC yX2_mix wsX2_mix ({ frames := 0, cells := 0, slots := 0, locals := 0 }) (fun _ => [.int a, .int b]) M (fun _ => some (.int (mixF a b))) (M) := by
  refine KC.of_i (by decide) rfl rfl (fun _ => by simp) (fun _ => by simp [Value.category])  ?_
  intro X hC hR hX hE
  simp only [List.map_cons, List.map_nil, List.cons_append, List.nil_append, List.length_cons, List.length_nil, List.replicate, Nat.reduceAdd, Nat.reduceSub]
  refine go_iload_n hC dX2_mix_0 rfl ?_
  refine go_ldcw hC lcX2_mix_315 dX2_mix_1 ?_
  refine go_imul hC dX2_mix_4 ?_
  refine go_istore_n hC 2 dX2_mix_5 rfl (Nat.le_of_ble_eq_true rfl) ?_
  simp only [gm_s0, gm_s1]
  refine go_iload_n hC dX2_mix_6 rfl ?_
  refine go_iload_n hC dX2_mix_7 rfl ?_
  refine go_bipush (v := 15) hC dX2_mix_8 (by decide) ?_
  refine go_iushr hC dX2_mix_10 ?_
  refine go_ixor hC dX2_mix_11 ?_
  refine go_istore_n hC 2 dX2_mix_12 rfl (Nat.le_of_ble_eq_true rfl) ?_
  simp only [gm_s0, gm_s1]
  refine go_iload_n hC dX2_mix_13 rfl ?_
  refine go_iload_n hC dX2_mix_14 rfl ?_
  refine go_ixor hC dX2_mix_15 ?_
  refine go_ldcw hC lcX2_mix_316 dX2_mix_16 ?_
  refine go_imul hC dX2_mix_19 ?_
  refine go_istore_n hC 2 dX2_mix_20 rfl (Nat.le_of_ble_eq_true rfl) ?_
  simp only [gm_s0, gm_s1]
  refine go_iload_n hC dX2_mix_21 rfl ?_
  refine go_iload_n hC dX2_mix_22 rfl ?_
  refine go_bipush (v := 13) hC dX2_mix_23 (by decide) ?_
  refine go_iushr hC dX2_mix_25 ?_
  refine go_ixor hC dX2_mix_26 ?_
  refine go_cast ?_ ?_ (hE _ _ dX2_mix_27)
  · first | rfl | (simp [*]; done)
  · first | rfl | (simp [*]; done)
set_option maxHeartbeats 4000000 in
set_option maxRecDepth 100000 in
/-- isWay -/
theorem c_X2_isWay (M : gm_M) (a : Int32) : KC lyC yX2_isWay wsX2_isWay ({ frames := 0, cells := 0, slots := 0, locals := 0 }) (fun _ => [.int a]) M (fun _ => some (.int (if ¬ a < 100 ∧ ¬ 600 < a then 1 else 0))) (M) := by
  refine KC.of_z (by decide) rfl rfl (fun _ => by simp) (fun _ => by simp [Value.category]) (by split <;> decide) ?_
  intro X hC hR hX hE
  simp only [List.map_cons, List.map_nil, List.cons_append, List.nil_append, List.length_cons, List.length_nil, List.replicate, Nat.reduceAdd, Nat.reduceSub]
  refine go_iload_n hC dX2_isWay_0 rfl ?_
  refine go_bipush (v := 100) hC dX2_isWay_1 (by decide) ?_
  refine go_icmp_lt hC 17 dX2_isWay_3 (by decide) (fun h3 => ?_) (fun h3 => ?_)
  ·
    refine go_iconst (v := 0) hC dX2_isWay_17 (by decide) ?_
    refine go_cast ?_ ?_ (hE _ _ dX2_isWay_18)
    · first | rfl | (simp [*]; done)
    · first | rfl | (simp [*]; done)
  ·
    refine go_iload_n hC dX2_isWay_6 rfl ?_
    refine go_sipush (v := 600) hC dX2_isWay_7 (by decide) ?_
    refine go_icmp_gt hC 17 dX2_isWay_10 (by decide) (fun h10 => ?_) (fun h10 => ?_)
    ·
      refine go_iconst (v := 0) hC dX2_isWay_17 (by decide) ?_
      refine go_cast ?_ ?_ (hE _ _ dX2_isWay_18)
      · first | rfl | (simp [*]; done)
      · first | rfl | (simp [*]; done)
    ·
      refine go_iconst (v := 1) hC dX2_isWay_13 (by decide) ?_
      refine go_goto hC 18 dX2_isWay_14 (by decide) ?_
      refine go_cast ?_ ?_ (hE _ _ dX2_isWay_18)
      · first | rfl | (simp [*]; done)
      · first | rfl | (simp [*]; done)
def cClear (M : gm_M) (n : Nat) : gm_M := gm_up (gm_up (gm_up (gm_up (gm_up (gm_up (gm_up (gm_up (gm_up M 0 2 n 0) 0 3 n 0) 0 4 n 0) 0 5 n 0) 0 6 n 0) 0 7 n 1) 0 8 n 0) 0 9 n 0) 0 10 n 0
theorem kwX0_clear_0 : ∀ w ∈ wsX00, w ∈ wsX0_clear := by decide +kernel
theorem lkX0_clear_18 : Cond.fieldLink RX0 18 "SharedFibre$Container" "weight" "I" ∈ wsX0_clear := by decide +kernel
theorem lkX0_clear_22 : Cond.fieldLink RX0 22 "SharedFibre$Container" "queued" "I" ∈ wsX0_clear := by decide +kernel
theorem lkX0_clear_25 : Cond.fieldLink RX0 25 "SharedFibre$Container" "firstHurt" "Z" ∈ wsX0_clear := by decide +kernel
theorem lkX0_clear_29 : Cond.fieldLink RX0 29 "SharedFibre$Container" "fixed" "I" ∈ wsX0_clear := by decide +kernel
theorem lkX0_clear_32 : Cond.fieldLink RX0 32 "SharedFibre$Container" "assured" "I" ∈ wsX0_clear := by decide +kernel
theorem lkX0_clear_35 : Cond.fieldLink RX0 35 "SharedFibre$Container" "most" "I" ∈ wsX0_clear := by decide +kernel
theorem lkX0_clear_38 : Cond.fieldLink RX0 38 "SharedFibre$Container" "reported" "I" ∈ wsX0_clear := by decide +kernel
theorem lkX0_clear_41 : Cond.fieldLink RX0 41 "SharedFibre$Container" "given" "I" ∈ wsX0_clear := by decide +kernel
theorem lkX0_clear_44 : Cond.fieldLink RX0 44 "SharedFibre$Container" "spare" "I" ∈ wsX0_clear := by decide +kernel
set_option maxHeartbeats 4000000 in
set_option maxRecDepth 100000 in
/-- Container.clear -/
theorem c_X0_clear (M : gm_M) (n : Nat) (hn : n < 10) : KC lyC yX0_clear wsX0_clear ({ frames := 0, cells := 0, slots := 0, locals := 0 }) (fun ad => [.ref (ad 0 n)]) M (fun _ => none) (cClear M n) := by
  refine KC.of_v (by decide) rfl rfl (fun _ => by simp) (fun _ => by simp [Value.category])  ?_
  intro X hC hR hX hE
  simp only [List.map_cons, List.map_nil, List.cons_append, List.nil_append, List.length_cons, List.length_nil, List.replicate, Nat.reduceAdd, Nat.reduceSub]
  refine go_aload_n hC dX0_clear_0 rfl ?_
  refine go_iconst (v := 0) hC dX0_clear_1 (by decide) ?_
  refine go_puti (ci := 0) hC 2 kwX0_clear_0 rfl tyX0 tyX0_ok nmX0 rfl (by decide) rfl lkX0_clear_22 (by first | decide | assumption | omega) rfl rfl rfl dX0_clear_2 ?_
  refine go_aload_n hC dX0_clear_5 rfl ?_
  refine go_iconst (v := 0) hC dX0_clear_6 (by decide) ?_
  refine go_puti (ci := 0) hC 3 kwX0_clear_0 rfl tyX0 tyX0_ok nmX0 rfl (by decide) rfl lkX0_clear_25 (by first | decide | assumption | omega) rfl (by decide) (by decide) dX0_clear_7 ?_
  refine go_aload_n hC dX0_clear_10 rfl ?_
  refine go_iconst (v := 0) hC dX0_clear_11 (by decide) ?_
  refine go_puti (ci := 0) hC 4 kwX0_clear_0 rfl tyX0 tyX0_ok nmX0 rfl (by decide) rfl lkX0_clear_29 (by first | decide | assumption | omega) rfl rfl rfl dX0_clear_12 ?_
  refine go_aload_n hC dX0_clear_15 rfl ?_
  refine go_iconst (v := 0) hC dX0_clear_16 (by decide) ?_
  refine go_puti (ci := 0) hC 5 kwX0_clear_0 rfl tyX0 tyX0_ok nmX0 rfl (by decide) rfl lkX0_clear_32 (by first | decide | assumption | omega) rfl rfl rfl dX0_clear_17 ?_
  refine go_aload_n hC dX0_clear_20 rfl ?_
  refine go_iconst (v := 0) hC dX0_clear_21 (by decide) ?_
  refine go_puti (ci := 0) hC 6 kwX0_clear_0 rfl tyX0 tyX0_ok nmX0 rfl (by decide) rfl lkX0_clear_35 (by first | decide | assumption | omega) rfl rfl rfl dX0_clear_22 ?_
  refine go_aload_n hC dX0_clear_25 rfl ?_
  refine go_iconst (v := 1) hC dX0_clear_26 (by decide) ?_
  refine go_puti (ci := 0) hC 7 kwX0_clear_0 rfl tyX0 tyX0_ok nmX0 rfl (by decide) rfl lkX0_clear_18 (by first | decide | assumption | omega) rfl rfl rfl dX0_clear_27 ?_
  refine go_aload_n hC dX0_clear_30 rfl ?_
  refine go_iconst (v := 0) hC dX0_clear_31 (by decide) ?_
  refine go_puti (ci := 0) hC 8 kwX0_clear_0 rfl tyX0 tyX0_ok nmX0 rfl (by decide) rfl lkX0_clear_38 (by first | decide | assumption | omega) rfl rfl rfl dX0_clear_32 ?_
  refine go_aload_n hC dX0_clear_35 rfl ?_
  refine go_iconst (v := 0) hC dX0_clear_36 (by decide) ?_
  refine go_puti (ci := 0) hC 9 kwX0_clear_0 rfl tyX0 tyX0_ok nmX0 rfl (by decide) rfl lkX0_clear_41 (by first | decide | assumption | omega) rfl rfl rfl dX0_clear_37 ?_
  refine go_aload_n hC dX0_clear_40 rfl ?_
  refine go_iconst (v := 0) hC dX0_clear_41 (by decide) ?_
  refine go_puti (ci := 0) hC 10 kwX0_clear_0 rfl tyX0 tyX0_ok nmX0 rfl (by decide) rfl lkX0_clear_44 (by first | decide | assumption | omega) rfl rfl rfl dX0_clear_42 ?_
  refine go_cast ?_ ?_ (hE _ _ dX0_clear_45)
  · first | rfl | (simp [*]; done)
  · first | rfl | (simp [*]; done)
