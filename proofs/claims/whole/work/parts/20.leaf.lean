/-! ===== the class: leaves ===== -/
def mixF (a b : Int32) : Int32 := ((((a * 625341585) ^^^ ((a * 625341585).toUInt32 >>> ((15 : Int32).toUInt32 &&& Int32.toUInt32 31)).toInt32) ^^^ b) * (-1640531535)) ^^^ (((((a * 625341585) ^^^ ((a * 625341585).toUInt32 >>> ((15 : Int32).toUInt32 &&& Int32.toUInt32 31)).toInt32) ^^^ b) * (-1640531535)).toUInt32 >>> ((13 : Int32).toUInt32 &&& Int32.toUInt32 31)).toInt32
def winF (a b : Int32) : Int32 := ((mixF a b).toUInt32 >>> ((1 : Int32).toUInt32 &&& Int32.toUInt32 31)).toInt32 - ((mixF a b).toUInt32 >>> ((1 : Int32).toUInt32 &&& Int32.toUInt32 31)).toInt32 / 8 * 8
theorem lcX2_mix_315 : Cond.constant RX2 315 (625341585) ∈ wsX2_mix := by decide +kernel
theorem lcX2_mix_316 : Cond.constant RX2 316 (-1640531535) ∈ wsX2_mix := by decide +kernel
set_option maxHeartbeats 4000000 in
set_option maxRecDepth 100000 in
/-- mix -/
theorem c_X2_mix (M : gm_M) (a b : Int32) : KC lyC yX2_mix wsX2_mix ({ frames := 0, cells := 0, slots := 0, locals := 0 }) (fun _ => [.int a, .int b]) M (fun _ => some (.int (mixF a b))) (M) := by
  refine KC.of_i (by decide) rfl rfl (fun _ => by simp) (fun _ => by simp [Value.category])  ?_
  intro X hC hR hX hE
  simp only [List.map_cons, List.map_nil, List.cons_append, List.nil_append, List.length_cons, List.length_nil, List.replicate, Nat.reduceAdd, Nat.reduceSub]
  refine go_iload_n hC dX2_mix_0 rfl ?_
  refine go_ldcw hC lcX2_mix_315 dX2_mix_1 ?_
  refine go_imul hC dX2_mix_4 ?_
  refine go_istore_n hC 2 dX2_mix_5 rfl (Nat.le_of_ble_eq_true rfl) ?_
  simp only [gm_s0, gm_s1]
  refine go_iload_n hC dX2_mix_6 rfl ?_
  refine go_iload_n hC dX2_mix_7 rfl ?_
  refine go_bipush (v := 15) hC dX2_mix_8 (by decide) ?_
  refine go_iushr hC dX2_mix_10 ?_
  refine go_ixor hC dX2_mix_11 ?_
  refine go_istore_n hC 2 dX2_mix_12 rfl (Nat.le_of_ble_eq_true rfl) ?_
  simp only [gm_s0, gm_s1]
  refine go_iload_n hC dX2_mix_13 rfl ?_
  refine go_iload_n hC dX2_mix_14 rfl ?_
  refine go_ixor hC dX2_mix_15 ?_
  refine go_ldcw hC lcX2_mix_316 dX2_mix_16 ?_
  refine go_imul hC dX2_mix_19 ?_
  refine go_istore_n hC 2 dX2_mix_20 rfl (Nat.le_of_ble_eq_true rfl) ?_
  simp only [gm_s0, gm_s1]
  refine go_iload_n hC dX2_mix_21 rfl ?_
  refine go_iload_n hC dX2_mix_22 rfl ?_
  refine go_bipush (v := 13) hC dX2_mix_23 (by decide) ?_
  refine go_iushr hC dX2_mix_25 ?_
  refine go_ixor hC dX2_mix_26 ?_
  refine go_cast ?_ ?_ (hE _ _ dX2_mix_27)
  · first | rfl | (simp [*]; done) | (simp [*, gm_us, gm_un1, gm_un2]; done)
  · first | rfl | (simp [*]; done) | (simp [*, gm_us, gm_un1, gm_un2]; done)
set_option maxHeartbeats 4000000 in
set_option maxRecDepth 100000 in
/-- isWay -/
theorem c_X2_isWay (M : gm_M) (a : Int32) : KC lyC yX2_isWay wsX2_isWay ({ frames := 0, cells := 0, slots := 0, locals := 0 }) (fun _ => [.int a]) M (fun _ => some (.int (if ¬ a < 100 ∧ ¬ 600 < a then 1 else 0))) (M) := by
  refine KC.of_z (by decide) rfl rfl (fun _ => by simp) (fun _ => by simp [Value.category]) (by split <;> decide) ?_
  intro X hC hR hX hE
  simp only [List.map_cons, List.map_nil, List.cons_append, List.nil_append, List.length_cons, List.length_nil, List.replicate, Nat.reduceAdd, Nat.reduceSub]
  refine go_iload_n hC dX2_isWay_0 rfl ?_
  refine go_bipush (v := 100) hC dX2_isWay_1 (by decide) ?_
  refine go_icmp_lt hC 17 dX2_isWay_3 (by decide) (fun h3 => ?_) (fun h3 => ?_)
  ·
    refine go_iconst (v := 0) hC dX2_isWay_17 (by decide) ?_
    refine go_cast ?_ ?_ (hE _ _ dX2_isWay_18)
    · first | rfl | (simp [*]; done) | (simp [*, gm_us, gm_un1, gm_un2]; done)
    · first | rfl | (simp [*]; done) | (simp [*, gm_us, gm_un1, gm_un2]; done)
  ·
    refine go_iload_n hC dX2_isWay_6 rfl ?_
    refine go_sipush (v := 600) hC dX2_isWay_7 (by decide) ?_
    refine go_icmp_gt hC 17 dX2_isWay_10 (by decide) (fun h10 => ?_) (fun h10 => ?_)
    ·
      refine go_iconst (v := 0) hC dX2_isWay_17 (by decide) ?_
      refine go_cast ?_ ?_ (hE _ _ dX2_isWay_18)
      · first | rfl | (simp [*]; done) | (simp [*, gm_us, gm_un1, gm_un2]; done)
      · first | rfl | (simp [*]; done) | (simp [*, gm_us, gm_un1, gm_un2]; done)
    ·
      refine go_iconst (v := 1) hC dX2_isWay_13 (by decide) ?_
      refine go_goto hC 18 dX2_isWay_14 (by decide) ?_
      refine go_cast ?_ ?_ (hE _ _ dX2_isWay_18)
      · first | rfl | (simp [*]; done) | (simp [*, gm_us, gm_un1, gm_un2]; done)
      · first | rfl | (simp [*]; done) | (simp [*, gm_us, gm_un1, gm_un2]; done)
def cClear (M : gm_M) (n : Nat) : gm_M := gm_up (gm_up (gm_up (gm_up (gm_up (gm_up (gm_up (gm_up (gm_up M 0 2 n 0) 0 3 n 0) 0 4 n 0) 0 5 n 0) 0 6 n 0) 0 7 n 1) 0 8 n 0) 0 9 n 0) 0 10 n 0
theorem kwX0_clear_0 : ∀ w ∈ wsX00, w ∈ wsX0_clear := by decide +kernel
theorem lkX0_clear_18 : Cond.fieldLink RX0 18 "SharedFibre$Container" "weight" "I" ∈ wsX0_clear := by decide +kernel
theorem lkX0_clear_22 : Cond.fieldLink RX0 22 "SharedFibre$Container" "queued" "I" ∈ wsX0_clear := by decide +kernel
theorem lkX0_clear_25 : Cond.fieldLink RX0 25 "SharedFibre$Container" "firstHurt" "Z" ∈ wsX0_clear := by decide +kernel
theorem lkX0_clear_29 : Cond.fieldLink RX0 29 "SharedFibre$Container" "fixed" "I" ∈ wsX0_clear := by decide +kernel
theorem lkX0_clear_32 : Cond.fieldLink RX0 32 "SharedFibre$Container" "assured" "I" ∈ wsX0_clear := by decide +kernel
theorem lkX0_clear_35 : Cond.fieldLink RX0 35 "SharedFibre$Container" "most" "I" ∈ wsX0_clear := by decide +kernel
theorem lkX0_clear_38 : Cond.fieldLink RX0 38 "SharedFibre$Container" "reported" "I" ∈ wsX0_clear := by decide +kernel
theorem lkX0_clear_41 : Cond.fieldLink RX0 41 "SharedFibre$Container" "given" "I" ∈ wsX0_clear := by decide +kernel
theorem lkX0_clear_44 : Cond.fieldLink RX0 44 "SharedFibre$Container" "spare" "I" ∈ wsX0_clear := by decide +kernel
set_option maxHeartbeats 4000000 in
set_option maxRecDepth 100000 in
/-- Container.clear -/
theorem c_X0_clear (M : gm_M) (n : Nat) (hn : n < 10) : KC lyC yX0_clear wsX0_clear ({ frames := 0, cells := 0, slots := 0, locals := 0 }) (fun ad => [.ref (ad 0 n)]) M (fun _ => none) (cClear M n) := by
  refine KC.of_v (by decide) rfl rfl (fun _ => by simp) (fun _ => by simp [Value.category])  ?_
  intro X hC hR hX hE
  simp only [List.map_cons, List.map_nil, List.cons_append, List.nil_append, List.length_cons, List.length_nil, List.replicate, Nat.reduceAdd, Nat.reduceSub]
  refine go_aload_n hC dX0_clear_0 rfl ?_
  refine go_iconst (v := 0) hC dX0_clear_1 (by decide) ?_
  refine go_puti (ci := 0) hC 2 kwX0_clear_0 rfl tyX0 tyX0_ok nmX0 rfl (by decide) rfl lkX0_clear_22 (by first | decide | (show _ < 5; omega) | (show _ < 10; omega) | omega) rfl rfl rfl dX0_clear_2 ?_
  refine go_aload_n hC dX0_clear_5 rfl ?_
  refine go_iconst (v := 0) hC dX0_clear_6 (by decide) ?_
  refine go_puti (ci := 0) hC 3 kwX0_clear_0 rfl tyX0 tyX0_ok nmX0 rfl (by decide) rfl lkX0_clear_25 (by first | decide | (show _ < 5; omega) | (show _ < 10; omega) | omega) rfl (by decide) (by decide) dX0_clear_7 ?_
  refine go_aload_n hC dX0_clear_10 rfl ?_
  refine go_iconst (v := 0) hC dX0_clear_11 (by decide) ?_
  refine go_puti (ci := 0) hC 4 kwX0_clear_0 rfl tyX0 tyX0_ok nmX0 rfl (by decide) rfl lkX0_clear_29 (by first | decide | (show _ < 5; omega) | (show _ < 10; omega) | omega) rfl rfl rfl dX0_clear_12 ?_
  refine go_aload_n hC dX0_clear_15 rfl ?_
  refine go_iconst (v := 0) hC dX0_clear_16 (by decide) ?_
  refine go_puti (ci := 0) hC 5 kwX0_clear_0 rfl tyX0 tyX0_ok nmX0 rfl (by decide) rfl lkX0_clear_32 (by first | decide | (show _ < 5; omega) | (show _ < 10; omega) | omega) rfl rfl rfl dX0_clear_17 ?_
  refine go_aload_n hC dX0_clear_20 rfl ?_
  refine go_iconst (v := 0) hC dX0_clear_21 (by decide) ?_
  refine go_puti (ci := 0) hC 6 kwX0_clear_0 rfl tyX0 tyX0_ok nmX0 rfl (by decide) rfl lkX0_clear_35 (by first | decide | (show _ < 5; omega) | (show _ < 10; omega) | omega) rfl rfl rfl dX0_clear_22 ?_
  refine go_aload_n hC dX0_clear_25 rfl ?_
  refine go_iconst (v := 1) hC dX0_clear_26 (by decide) ?_
  refine go_puti (ci := 0) hC 7 kwX0_clear_0 rfl tyX0 tyX0_ok nmX0 rfl (by decide) rfl lkX0_clear_18 (by first | decide | (show _ < 5; omega) | (show _ < 10; omega) | omega) rfl rfl rfl dX0_clear_27 ?_
  refine go_aload_n hC dX0_clear_30 rfl ?_
  refine go_iconst (v := 0) hC dX0_clear_31 (by decide) ?_
  refine go_puti (ci := 0) hC 8 kwX0_clear_0 rfl tyX0 tyX0_ok nmX0 rfl (by decide) rfl lkX0_clear_38 (by first | decide | (show _ < 5; omega) | (show _ < 10; omega) | omega) rfl rfl rfl dX0_clear_32 ?_
  refine go_aload_n hC dX0_clear_35 rfl ?_
  refine go_iconst (v := 0) hC dX0_clear_36 (by decide) ?_
  refine go_puti (ci := 0) hC 9 kwX0_clear_0 rfl tyX0 tyX0_ok nmX0 rfl (by decide) rfl lkX0_clear_41 (by first | decide | (show _ < 5; omega) | (show _ < 10; omega) | omega) rfl rfl rfl dX0_clear_37 ?_
  refine go_aload_n hC dX0_clear_40 rfl ?_
  refine go_iconst (v := 0) hC dX0_clear_41 (by decide) ?_
  refine go_puti (ci := 0) hC 10 kwX0_clear_0 rfl tyX0 tyX0_ok nmX0 rfl (by decide) rfl lkX0_clear_44 (by first | decide | (show _ < 5; omega) | (show _ < 10; omega) | omega) rfl rfl rfl dX0_clear_42 ?_
  refine go_cast ?_ ?_ (hE _ _ dX0_clear_45)
  · first | rfl | (simp [*]; done) | (simp [*, gm_us, gm_un1, gm_un2]; done)
  · first | rfl | (simp [*]; done) | (simp [*, gm_us, gm_un1, gm_un2]; done)
theorem kwX0_load_0 : ∀ w ∈ wsX00, w ∈ wsX0_load := by decide +kernel
theorem lkX0_load_15 : Cond.fieldLink RX0 15 "SharedFibre$Container" "unsent" "[I" ∈ wsX0_load := by decide +kernel
theorem lkX0_load_22 : Cond.fieldLink RX0 22 "SharedFibre$Container" "queued" "I" ∈ wsX0_load := by decide +kernel
set_option maxHeartbeats 4000000 in
set_option maxRecDepth 100000 in
/-- Container.load -/
theorem c_X0_load (M : gm_M) (n q : Nat) (hn : n < 10) (hq : M 0 2 n = nI q) (h8 : q ≤ 8) : KC lyC yX0_load wsX0_load ({ frames := 0, cells := 0, slots := 0, locals := 0 }) (fun ad => [.ref (ad 0 n)]) M (fun _ => some (.int (bx_sum (fun k => M 11 k n) q))) (M) := by
  refine KC.of_i (by decide) rfl rfl (fun _ => by simp) (fun _ => by simp [Value.category])  ?_
  intro X hC hR hX hE
  simp only [List.map_cons, List.map_nil, List.cons_append, List.nil_append, List.length_cons, List.length_nil, List.replicate, Nat.reduceAdd, Nat.reduceSub]
  have lp4 : (fun j : Nat => GO lyC X 0 0 4 [some (.ref (gm_ad X 0 n)), some (.int (bx_sum (fun k => M 11 k n) j)), some (.int (nI j))] [] M) 0 := by
    refine loopN (q) (fun j : Nat => GO lyC X 0 0 4 [some (.ref (gm_ad X 0 n)), some (.int (bx_sum (fun k => M 11 k n) j)), some (.int (nI j))] [] M) ?_ (fun j hj ih => ?_)
    · try dsimp only
      refine go_iload_n hC dX0_load_4 rfl ?_
      refine go_aload_n hC dX0_load_5 rfl ?_
      refine go_geti (ci := 0) hC 2 kwX0_load_0 rfl rfl (by decide) rfl lkX0_load_22 (by first | decide | (show _ < 5; omega) | (show _ < 10; omega) | omega) dX0_load_6 ?_
      refine go_icmp_ge hC 27 dX0_load_9 (by decide) (fun h9 => ?_) (fun h9 => ?_)
      ·
        refine go_iload_n hC dX0_load_27 rfl ?_
        refine go_cast ?_ ?_ (hE _ _ dX0_load_28)
        · first | rfl | (simp [*]; done) | (simp [*, gm_us, gm_un1, gm_un2]; done)
        · first | rfl | (simp [*]; done) | (simp [*, gm_us, gm_un1, gm_un2]; done)
      ·
        exact absurd (by rw [hq]; exact nI_le (Nat.le_refl _) (by omega)) h9
    · try dsimp only at ih ⊢
      refine go_iload_n hC dX0_load_4 rfl ?_
      refine go_aload_n hC dX0_load_5 rfl ?_
      refine go_geti (ci := 0) hC 2 kwX0_load_0 rfl rfl (by decide) rfl lkX0_load_22 (by first | decide | (show _ < 5; omega) | (show _ < 10; omega) | omega) dX0_load_6 ?_
      refine go_icmp_ge hC 27 dX0_load_9 (by decide) (fun h9 => ?_) (fun h9 => ?_)
      ·
        exact absurd h9 (by rw [hq]; exact nI_ge hj (by omega))
      ·
        refine go_iload_n hC dX0_load_12 rfl ?_
        refine go_aload_n hC dX0_load_13 rfl ?_
        refine go_getr (ci := 0) hC 1 kwX0_load_0 rfl rfl (by decide) rfl lkX0_load_15 (by first | decide | (show _ < 5; omega) | (show _ < 10; omega) | omega) dX0_load_14 ?_
        refine go_iload_n hC dX0_load_17 rfl ?_
        refine go_iald hC rfl (by first | decide | (show _ < 5; omega) | (show _ < 10; omega) | omega) (gm_in rfl (by omega) (by decide)) (gm_cl rfl (by omega)) dX0_load_18 ?_
        refine go_iadd hC dX0_load_19 ?_
        refine go_istore_n hC 1 dX0_load_20 rfl (Nat.le_of_ble_eq_true rfl) ?_
        simp only [gm_s0, gm_s1]
        refine go_iinc (v := 1) hC dX0_load_21 rfl (by decide) ?_
        simp only [gm_s0, gm_s1]
        refine go_goto hC 4 dX0_load_24 (by decide) ?_
        rw [nI_1]
        exact ih
  try dsimp only at lp4
  refine go_iconst (v := 0) hC dX0_load_0 (by decide) ?_
  refine go_istore_n hC 1 dX0_load_1 rfl (Nat.le_of_ble_eq_true rfl) ?_
  simp only [gm_s0, gm_s1]
  refine go_iconst (v := 0) hC dX0_load_2 (by decide) ?_
  refine go_istore_n hC 2 dX0_load_3 rfl (Nat.le_of_ble_eq_true rfl) ?_
  simp only [gm_s0, gm_s1]
  exact lp4
def cApp (M : gm_M) (n q : Nat) (d b : Int32) : gm_M := gm_up (gm_up (gm_up M 10 q n d) 11 q n b) 0 2 n (M 0 2 n + 1)
theorem kwX0_append_0 : ∀ w ∈ wsX00, w ∈ wsX0_append := by decide +kernel
theorem lkX0_append_9 : Cond.fieldLink RX0 9 "SharedFibre$Container" "numbers" "[I" ∈ wsX0_append := by decide +kernel
theorem lkX0_append_15 : Cond.fieldLink RX0 15 "SharedFibre$Container" "unsent" "[I" ∈ wsX0_append := by decide +kernel
theorem lkX0_append_22 : Cond.fieldLink RX0 22 "SharedFibre$Container" "queued" "I" ∈ wsX0_append := by decide +kernel
set_option maxHeartbeats 4000000 in
set_option maxRecDepth 100000 in
/-- Container.append -/
theorem c_X0_append (M : gm_M) (n q : Nat) (hn : n < 10) (hq : M 0 2 n = nI q) (hq8 : q < 8) (d b : Int32) : KC lyC yX0_append wsX0_append ({ frames := 0, cells := 0, slots := 0, locals := 0 }) (fun ad => [.ref (ad 0 n), .int d, .int b]) M (fun _ => none) (cApp M n q d b) := by
  refine KC.of_v (by decide) rfl rfl (fun _ => by simp) (fun _ => by simp [Value.category])  ?_
  intro X hC hR hX hE
  simp only [List.map_cons, List.map_nil, List.cons_append, List.nil_append, List.length_cons, List.length_nil, List.replicate, Nat.reduceAdd, Nat.reduceSub]
  refine go_aload_n hC dX0_append_0 rfl ?_
  refine go_getr (ci := 0) hC 0 kwX0_append_0 rfl rfl (by decide) rfl lkX0_append_9 (by first | decide | (show _ < 5; omega) | (show _ < 10; omega) | omega) dX0_append_1 ?_
  refine go_aload_n hC dX0_append_4 rfl ?_
  refine go_geti (ci := 0) hC 2 kwX0_append_0 rfl rfl (by decide) rfl lkX0_append_22 (by first | decide | (show _ < 5; omega) | (show _ < 10; omega) | omega) dX0_append_5 ?_
  refine go_iload_n hC dX0_append_8 rfl ?_
  refine go_iast hC rfl (by first | decide | (show _ < 5; omega) | (show _ < 10; omega) | omega) (gm_in (n := q) hq (by omega) (by decide)) (gm_cl (n := q) hq (by omega)) dX0_append_9 ?_
  refine go_aload_n hC dX0_append_10 rfl ?_
  refine go_getr (ci := 0) hC 1 kwX0_append_0 rfl rfl (by decide) rfl lkX0_append_15 (by first | decide | (show _ < 5; omega) | (show _ < 10; omega) | omega) dX0_append_11 ?_
  refine go_aload_n hC dX0_append_14 rfl ?_
  refine go_geti (ci := 0) hC 2 kwX0_append_0 rfl rfl (by decide) rfl lkX0_append_22 (by first | decide | (show _ < 5; omega) | (show _ < 10; omega) | omega) dX0_append_15 ?_
  refine go_iload_n hC dX0_append_18 rfl ?_
  refine go_iast hC rfl (by first | decide | (show _ < 5; omega) | (show _ < 10; omega) | omega) (gm_in (n := q) ((gm_un1 (by decide)).trans hq) (by omega) (by decide)) (gm_cl (n := q) ((gm_un1 (by decide)).trans hq) (by omega)) dX0_append_19 ?_
  refine go_aload_n hC dX0_append_20 rfl ?_
  refine go_dup hC dX0_append_21 rfl ?_
  refine go_geti (ci := 0) hC 2 kwX0_append_0 rfl rfl (by decide) rfl lkX0_append_22 (by first | decide | (show _ < 5; omega) | (show _ < 10; omega) | omega) dX0_append_22 ?_
  refine go_iconst (v := 1) hC dX0_append_25 (by decide) ?_
  refine go_iadd hC dX0_append_26 ?_
  refine go_puti (ci := 0) hC 2 kwX0_append_0 rfl tyX0 tyX0_ok nmX0 rfl (by decide) rfl lkX0_append_22 (by first | decide | (show _ < 5; omega) | (show _ < 10; omega) | omega) rfl rfl rfl dX0_append_27 ?_
  refine go_cast ?_ ?_ (hE _ _ dX0_append_30)
  · first | rfl | (simp [*]; done) | (simp [*, gm_us, gm_un1, gm_un2]; done)
  · first | rfl | (simp [*]; done) | (simp [*, gm_us, gm_un1, gm_un2]; done)
def cSend (M : gm_M) (n : Nat) (z : Int32) : gm_M := if z = 0 then gm_up M 11 0 n (M 11 0 n - 1) else gm_up (gm_up M 11 0 n (M 11 0 n - 1)) 0 3 n 1
theorem kwX0_sendBlock_0 : ∀ w ∈ wsX00, w ∈ wsX0_sendBlock := by decide +kernel
theorem lkX0_sendBlock_15 : Cond.fieldLink RX0 15 "SharedFibre$Container" "unsent" "[I" ∈ wsX0_sendBlock := by decide +kernel
theorem lkX0_sendBlock_25 : Cond.fieldLink RX0 25 "SharedFibre$Container" "firstHurt" "Z" ∈ wsX0_sendBlock := by decide +kernel
set_option maxHeartbeats 4000000 in
set_option maxRecDepth 100000 in
/-- Container.sendBlock -/
theorem c_X0_sendBlock (M : gm_M) (n : Nat) (hn : n < 10) (z : Int32) : KC lyC yX0_sendBlock wsX0_sendBlock ({ frames := 0, cells := 0, slots := 0, locals := 0 }) (fun ad => [.ref (ad 0 n), .int z]) M (fun _ => none) (cSend M n z) := by
  refine KC.of_v (by decide) rfl rfl (fun _ => by simp) (fun _ => by simp [Value.category])  ?_
  intro X hC hR hX hE
  simp only [List.map_cons, List.map_nil, List.cons_append, List.nil_append, List.length_cons, List.length_nil, List.replicate, Nat.reduceAdd, Nat.reduceSub]
  refine go_aload_n hC dX0_sendBlock_0 rfl ?_
  refine go_getr (ci := 0) hC 1 kwX0_sendBlock_0 rfl rfl (by decide) rfl lkX0_sendBlock_15 (by first | decide | (show _ < 5; omega) | (show _ < 10; omega) | omega) dX0_sendBlock_1 ?_
  refine go_iconst (v := 0) hC dX0_sendBlock_4 (by decide) ?_
  refine go_dup2 hC dX0_sendBlock_5 rfl rfl ?_
  refine go_iald hC rfl (by first | decide | (show _ < 5; omega) | (show _ < 10; omega) | omega) (gm_in (n := 0) nI_0.symm (by omega) (by decide)) (gm_cl (n := 0) nI_0.symm (by omega)) dX0_sendBlock_6 ?_
  refine go_iconst (v := 1) hC dX0_sendBlock_7 (by decide) ?_
  refine go_isub hC dX0_sendBlock_8 ?_
  refine go_iast hC rfl (by first | decide | (show _ < 5; omega) | (show _ < 10; omega) | omega) (gm_in (n := 0) nI_0.symm (by omega) (by decide)) (gm_cl (n := 0) nI_0.symm (by omega)) dX0_sendBlock_9 ?_
  refine go_iload_n hC dX0_sendBlock_10 rfl ?_
  refine go_if_eq hC 19 dX0_sendBlock_11 (by decide) (fun h11 => ?_) (fun h11 => ?_)
  ·
    refine go_cast ?_ ?_ (hE _ _ dX0_sendBlock_19)
    · first | rfl | (simp [*, cSend]; done) | (simp [*, gm_us, gm_un1, gm_un2]; done)
    · first | rfl | (simp [*, cSend]; done) | (simp [*, gm_us, gm_un1, gm_un2]; done)
  ·
    refine go_aload_n hC dX0_sendBlock_14 rfl ?_
    refine go_iconst (v := 1) hC dX0_sendBlock_15 (by decide) ?_
    refine go_puti (ci := 0) hC 3 kwX0_sendBlock_0 rfl tyX0 tyX0_ok nmX0 rfl (by decide) rfl lkX0_sendBlock_25 (by first | decide | (show _ < 5; omega) | (show _ < 10; omega) | omega) rfl (by decide) (by decide) dX0_sendBlock_16 ?_
    refine go_cast ?_ ?_ (hE _ _ dX0_sendBlock_19)
    · first | rfl | (simp [*, cSend]; done) | (simp [*, gm_us, gm_un1, gm_un2]; done)
    · first | rfl | (simp [*, cSend]; done) | (simp [*, gm_us, gm_un1, gm_un2]; done)
def cDrop1 (n : Nat) : Nat → gm_M → gm_M := fun k M => gm_up (gm_up M 10 k n (M 10 (k + 1) n)) 11 k n (M 11 (k + 1) n)
def cDrop (M : gm_M) (n q : Nat) : gm_M := gm_up (iter (cDrop1 n) q (gm_up M 0 2 n (M 0 2 n - 1))) 0 3 n 0
theorem cDrop1_q {M : gm_M} {n : Nat} {x : Int32} (h : M 0 2 n = x) (j : Nat) : iter (cDrop1 n) j M 0 2 n = x := iter_inv (P := fun M => M 0 2 n = x) (fun k M h => by simp only [cDrop1]; rw [gm_un1 (by decide), gm_un1 (by decide)]; exact h) h j
theorem kwX0_dropFirst_0 : ∀ w ∈ wsX00, w ∈ wsX0_dropFirst := by decide +kernel
theorem lkX0_dropFirst_9 : Cond.fieldLink RX0 9 "SharedFibre$Container" "numbers" "[I" ∈ wsX0_dropFirst := by decide +kernel
theorem lkX0_dropFirst_15 : Cond.fieldLink RX0 15 "SharedFibre$Container" "unsent" "[I" ∈ wsX0_dropFirst := by decide +kernel
theorem lkX0_dropFirst_22 : Cond.fieldLink RX0 22 "SharedFibre$Container" "queued" "I" ∈ wsX0_dropFirst := by decide +kernel
theorem lkX0_dropFirst_25 : Cond.fieldLink RX0 25 "SharedFibre$Container" "firstHurt" "Z" ∈ wsX0_dropFirst := by decide +kernel
set_option maxHeartbeats 4000000 in
set_option maxRecDepth 100000 in
/-- Container.dropFirst -/
theorem c_X0_dropFirst (M : gm_M) (n q : Nat) (hn : n < 10) (hq : M 0 2 n = nI (q + 1)) (h8 : q < 8) : KC lyC yX0_dropFirst wsX0_dropFirst ({ frames := 0, cells := 0, slots := 0, locals := 0 }) (fun ad => [.ref (ad 0 n)]) M (fun _ => none) (cDrop M n q) := by
  refine KC.of_v (by decide) rfl rfl (fun _ => by simp) (fun _ => by simp [Value.category])  ?_
  intro X hC hR hX hE
  simp only [List.map_cons, List.map_nil, List.cons_append, List.nil_append, List.length_cons, List.length_nil, List.replicate, Nat.reduceAdd, Nat.reduceSub]
  have hq2 : ∀ j, iter (cDrop1 n) j (gm_up M 0 2 n (M 0 2 n - 1)) 0 2 n = nI q := cDrop1_q (by rw [gm_us, hq]; exact nI_pred q)
  have lp12 : (fun j : Nat => GO lyC X 0 0 12 [some (.ref (gm_ad X 0 n)), some (.int (nI j))] [] (iter (cDrop1 n) j (gm_up M 0 2 n (M 0 2 n - 1)))) 0 := by
    refine loopN (q) (fun j : Nat => GO lyC X 0 0 12 [some (.ref (gm_ad X 0 n)), some (.int (nI j))] [] (iter (cDrop1 n) j (gm_up M 0 2 n (M 0 2 n - 1)))) ?_ (fun j hj ih => ?_)
    · try dsimp only
      refine go_iload_n hC dX0_dropFirst_12 rfl ?_
      refine go_aload_n hC dX0_dropFirst_13 rfl ?_
      refine go_geti (ci := 0) hC 2 kwX0_dropFirst_0 rfl rfl (by decide) rfl lkX0_dropFirst_22 (by first | decide | (show _ < 5; omega) | (show _ < 10; omega) | omega) dX0_dropFirst_14 ?_
      refine go_icmp_ge hC 54 dX0_dropFirst_17 (by decide) (fun h17 => ?_) (fun h17 => ?_)
      ·
        refine go_aload_n hC dX0_dropFirst_54 rfl ?_
        refine go_iconst (v := 0) hC dX0_dropFirst_55 (by decide) ?_
        refine go_puti (ci := 0) hC 3 kwX0_dropFirst_0 rfl tyX0 tyX0_ok nmX0 rfl (by decide) rfl lkX0_dropFirst_25 (by first | decide | (show _ < 5; omega) | (show _ < 10; omega) | omega) rfl (by decide) (by decide) dX0_dropFirst_56 ?_
        refine go_cast ?_ ?_ (hE _ _ dX0_dropFirst_59)
        · first | rfl | (simp [*]; done) | (simp [*, gm_us, gm_un1, gm_un2]; done)
        · first | rfl | (simp [*]; done) | (simp [*, gm_us, gm_un1, gm_un2]; done)
      ·
        exact absurd (by rw [hq2 q]; exact nI_le (Nat.le_refl _) (by omega)) h17
    · try dsimp only at ih ⊢
      refine go_iload_n hC dX0_dropFirst_12 rfl ?_
      refine go_aload_n hC dX0_dropFirst_13 rfl ?_
      refine go_geti (ci := 0) hC 2 kwX0_dropFirst_0 rfl rfl (by decide) rfl lkX0_dropFirst_22 (by first | decide | (show _ < 5; omega) | (show _ < 10; omega) | omega) dX0_dropFirst_14 ?_
      refine go_icmp_ge hC 54 dX0_dropFirst_17 (by decide) (fun h17 => ?_) (fun h17 => ?_)
      ·
        exact absurd h17 (by rw [hq2 j]; exact nI_ge hj (by omega))
      ·
        refine go_aload_n hC dX0_dropFirst_20 rfl ?_
        refine go_getr (ci := 0) hC 0 kwX0_dropFirst_0 rfl rfl (by decide) rfl lkX0_dropFirst_9 (by first | decide | (show _ < 5; omega) | (show _ < 10; omega) | omega) dX0_dropFirst_21 ?_
        refine go_iload_n hC dX0_dropFirst_24 rfl ?_
        refine go_aload_n hC dX0_dropFirst_25 rfl ?_
        refine go_getr (ci := 0) hC 0 kwX0_dropFirst_0 rfl rfl (by decide) rfl lkX0_dropFirst_9 (by first | decide | (show _ < 5; omega) | (show _ < 10; omega) | omega) dX0_dropFirst_26 ?_
        refine go_iload_n hC dX0_dropFirst_29 rfl ?_
        refine go_iconst (v := 1) hC dX0_dropFirst_30 (by decide) ?_
        refine go_iadd hC dX0_dropFirst_31 ?_
        refine go_iald hC rfl (by first | decide | (show _ < 5; omega) | (show _ < 10; omega) | omega) (gm_in (nI_1 j) (by omega) (by decide)) (gm_cl (nI_1 j) (by omega)) dX0_dropFirst_32 ?_
        refine go_iast hC rfl (by first | decide | (show _ < 5; omega) | (show _ < 10; omega) | omega) (gm_in rfl (by omega) (by decide)) (gm_cl rfl (by omega)) dX0_dropFirst_33 ?_
        refine go_aload_n hC dX0_dropFirst_34 rfl ?_
        refine go_getr (ci := 0) hC 1 kwX0_dropFirst_0 rfl rfl (by decide) rfl lkX0_dropFirst_15 (by first | decide | (show _ < 5; omega) | (show _ < 10; omega) | omega) dX0_dropFirst_35 ?_
        refine go_iload_n hC dX0_dropFirst_38 rfl ?_
        refine go_aload_n hC dX0_dropFirst_39 rfl ?_
        refine go_getr (ci := 0) hC 1 kwX0_dropFirst_0 rfl rfl (by decide) rfl lkX0_dropFirst_15 (by first | decide | (show _ < 5; omega) | (show _ < 10; omega) | omega) dX0_dropFirst_40 ?_
        refine go_iload_n hC dX0_dropFirst_43 rfl ?_
        refine go_iconst (v := 1) hC dX0_dropFirst_44 (by decide) ?_
        refine go_iadd hC dX0_dropFirst_45 ?_
        refine go_iald hC rfl (by first | decide | (show _ < 5; omega) | (show _ < 10; omega) | omega) (gm_in (nI_1 j) (by omega) (by decide)) (gm_cl (nI_1 j) (by omega)) dX0_dropFirst_46 ?_
        refine go_iast hC rfl (by first | decide | (show _ < 5; omega) | (show _ < 10; omega) | omega) (gm_in rfl (by omega) (by decide)) (gm_cl rfl (by omega)) dX0_dropFirst_47 ?_
        refine go_iinc (v := 1) hC dX0_dropFirst_48 rfl (by decide) ?_
        simp only [gm_s0, gm_s1]
        refine go_goto hC 12 dX0_dropFirst_51 (by decide) ?_
        rw [nI_1]
        refine go_mem ?_ ih
        simp only [iter, cDrop1]
        rw [gm_un1 (by decide)]
  try dsimp only at lp12
  refine go_aload_n hC dX0_dropFirst_0 rfl ?_
  refine go_dup hC dX0_dropFirst_1 rfl ?_
  refine go_geti (ci := 0) hC 2 kwX0_dropFirst_0 rfl rfl (by decide) rfl lkX0_dropFirst_22 (by first | decide | (show _ < 5; omega) | (show _ < 10; omega) | omega) dX0_dropFirst_2 ?_
  refine go_iconst (v := 1) hC dX0_dropFirst_5 (by decide) ?_
  refine go_isub hC dX0_dropFirst_6 ?_
  refine go_puti (ci := 0) hC 2 kwX0_dropFirst_0 rfl tyX0 tyX0_ok nmX0 rfl (by decide) rfl lkX0_dropFirst_22 (by first | decide | (show _ < 5; omega) | (show _ < 10; omega) | omega) rfl rfl rfl dX0_dropFirst_7 ?_
  refine go_iconst (v := 0) hC dX0_dropFirst_10 (by decide) ?_
  refine go_istore_n hC 1 dX0_dropFirst_11 rfl (Nat.le_of_ble_eq_true rfl) ?_
  simp only [gm_s0, gm_s1]
  exact lp12
def sureF (f a r : Int32) : Int32 := f + (if (if (0 : Int32) < r - f then r - f else 0) < a then (if (0 : Int32) < r - f then r - f else 0) else a)
def cGive (M : gm_M) (n : Nat) (z : Int32) : gm_M := gm_up (gm_up M 0 10 n 0) 0 9 n (if z = 0 then 0 else sureF (M 0 4 n) (M 0 5 n) (M 0 8 n))
theorem kwX0_giveContracted_0 : ∀ w ∈ wsX00, w ∈ wsX0_giveContracted := by decide +kernel
theorem lkX0_giveContracted_29 : Cond.fieldLink RX0 29 "SharedFibre$Container" "fixed" "I" ∈ wsX0_giveContracted := by decide +kernel
theorem lkX0_giveContracted_32 : Cond.fieldLink RX0 32 "SharedFibre$Container" "assured" "I" ∈ wsX0_giveContracted := by decide +kernel
theorem lkX0_giveContracted_38 : Cond.fieldLink RX0 38 "SharedFibre$Container" "reported" "I" ∈ wsX0_giveContracted := by decide +kernel
theorem lkX0_giveContracted_41 : Cond.fieldLink RX0 41 "SharedFibre$Container" "given" "I" ∈ wsX0_giveContracted := by decide +kernel
theorem lkX0_giveContracted_44 : Cond.fieldLink RX0 44 "SharedFibre$Container" "spare" "I" ∈ wsX0_giveContracted := by decide +kernel
theorem lmX0_giveContracted_max_c : Cond.code Lib.Math.max.name Lib.Math.max.code 2 (some .int) ∈ wsX0_giveContracted := by decide +kernel
theorem lmX0_giveContracted_max_i : Cond.initialized "java/lang/Math" ∈ wsX0_giveContracted := by decide +kernel
theorem lmX0_giveContracted_max_l : Cond.methodLink RX0 47 Lib.Math.max.name ∈ wsX0_giveContracted := by decide +kernel
theorem lmX0_giveContracted_max_s : Cond.static Lib.Math.max.name ∈ wsX0_giveContracted := by decide +kernel
theorem lmX0_giveContracted_min_c : Cond.code Lib.Math.min.name Lib.Math.min.code 2 (some .int) ∈ wsX0_giveContracted := by decide +kernel
theorem lmX0_giveContracted_min_i : Cond.initialized "java/lang/Math" ∈ wsX0_giveContracted := by decide +kernel
theorem lmX0_giveContracted_min_l : Cond.methodLink RX0 53 Lib.Math.min.name ∈ wsX0_giveContracted := by decide +kernel
theorem lmX0_giveContracted_min_s : Cond.static Lib.Math.min.name ∈ wsX0_giveContracted := by decide +kernel
set_option maxHeartbeats 4000000 in
set_option maxRecDepth 100000 in
/-- Container.giveContracted -/
theorem c_X0_giveContracted (M : gm_M) (n : Nat) (hn : n < 10) (z : Int32) : KC lyC yX0_giveContracted wsX0_giveContracted ({ frames := 1, cells := 0, slots := 0, locals := 21 }) (fun ad => [.ref (ad 0 n), .int z]) M (fun _ => none) (cGive M n z) := by
  refine KC.of_v (by decide) rfl rfl (fun _ => by simp) (fun _ => by simp [Value.category])  ?_
  intro X hC hR hX hE
  simp only [List.map_cons, List.map_nil, List.cons_append, List.nil_append, List.length_cons, List.length_nil, List.replicate, Nat.reduceAdd, Nat.reduceSub]
  refine go_aload_n hC dX0_giveContracted_0 rfl ?_
  refine go_iconst (v := 0) hC dX0_giveContracted_1 (by decide) ?_
  refine go_puti (ci := 0) hC 10 kwX0_giveContracted_0 rfl tyX0 tyX0_ok nmX0 rfl (by decide) rfl lkX0_giveContracted_44 (by first | decide | (show _ < 5; omega) | (show _ < 10; omega) | omega) rfl rfl rfl dX0_giveContracted_2 ?_
  refine go_aload_n hC dX0_giveContracted_5 rfl ?_
  refine go_iload_n hC dX0_giveContracted_6 rfl ?_
  refine go_if_eq hC 38 dX0_giveContracted_7 (by decide) (fun h7 => ?_) (fun h7 => ?_)
  ·
    refine go_iconst (v := 0) hC dX0_giveContracted_38 (by decide) ?_
    refine go_puti (ci := 0) hC 9 kwX0_giveContracted_0 rfl tyX0 tyX0_ok nmX0 rfl (by decide) rfl lkX0_giveContracted_41 (by first | decide | (show _ < 5; omega) | (show _ < 10; omega) | omega) rfl rfl rfl dX0_giveContracted_39 ?_
    refine go_cast ?_ ?_ (hE _ _ dX0_giveContracted_42)
    · first | rfl | (simp [*, cGive, sureF]; done) | (simp [*, cGive, sureF, gm_us, gm_un1, gm_un2]; done)
    · first | rfl | (simp [*, cGive, sureF]; done) | (simp [*, cGive, sureF, gm_us, gm_un1, gm_un2]; done)
  ·
    refine go_aload_n hC dX0_giveContracted_10 rfl ?_
    refine go_geti (ci := 0) hC 4 kwX0_giveContracted_0 rfl rfl (by decide) rfl lkX0_giveContracted_29 (by first | decide | (show _ < 5; omega) | (show _ < 10; omega) | omega) dX0_giveContracted_11 ?_
    refine go_aload_n hC dX0_giveContracted_14 rfl ?_
    refine go_geti (ci := 0) hC 5 kwX0_giveContracted_0 rfl rfl (by decide) rfl lkX0_giveContracted_32 (by first | decide | (show _ < 5; omega) | (show _ < 10; omega) | omega) dX0_giveContracted_15 ?_
    refine go_iconst (v := 0) hC dX0_giveContracted_18 (by decide) ?_
    refine go_aload_n hC dX0_giveContracted_19 rfl ?_
    refine go_geti (ci := 0) hC 8 kwX0_giveContracted_0 rfl rfl (by decide) rfl lkX0_giveContracted_38 (by first | decide | (show _ < 5; omega) | (show _ < 10; omega) | omega) dX0_giveContracted_20 ?_
    refine go_aload_n hC dX0_giveContracted_23 rfl ?_
    refine go_geti (ci := 0) hC 4 kwX0_giveContracted_0 rfl rfl (by decide) rfl lkX0_giveContracted_29 (by first | decide | (show _ < 5; omega) | (show _ < 10; omega) | omega) dX0_giveContracted_24 ?_
    refine go_isub hC dX0_giveContracted_27 ?_
    refine go_max hC lmX0_giveContracted_max_l lmX0_giveContracted_max_s lmX0_giveContracted_max_i lmX0_giveContracted_max_c (by rw [hR]; exact ⟨by decide, Nat.le_of_ble_eq_true rfl⟩) (by rw [hR]; exact ⟨by decide, by decide⟩) rfl dX0_giveContracted_28 ?_
    refine go_min hC lmX0_giveContracted_min_l lmX0_giveContracted_min_s lmX0_giveContracted_min_i lmX0_giveContracted_min_c (by rw [hR]; exact ⟨by decide, Nat.le_of_ble_eq_true rfl⟩) (by rw [hR]; exact ⟨by decide, by decide⟩) rfl dX0_giveContracted_31 ?_
    refine go_iadd hC dX0_giveContracted_34 ?_
    refine go_goto hC 39 dX0_giveContracted_35 (by decide) ?_
    refine go_puti (ci := 0) hC 9 kwX0_giveContracted_0 rfl tyX0 tyX0_ok nmX0 rfl (by decide) rfl lkX0_giveContracted_41 (by first | decide | (show _ < 5; omega) | (show _ < 10; omega) | omega) rfl rfl rfl dX0_giveContracted_39 ?_
    refine go_cast ?_ ?_ (hE _ _ dX0_giveContracted_42)
    · first | rfl | (simp [*, cGive, sureF]; done) | (simp [*, cGive, sureF, gm_us, gm_un1, gm_un2]; done)
    · first | rfl | (simp [*, cGive, sureF]; done) | (simp [*, cGive, sureF, gm_us, gm_un1, gm_un2]; done)
theorem kwX0_wants_0 : ∀ w ∈ wsX00, w ∈ wsX0_wants := by decide +kernel
theorem lkX0_wants_35 : Cond.fieldLink RX0 35 "SharedFibre$Container" "most" "I" ∈ wsX0_wants := by decide +kernel
theorem lkX0_wants_38 : Cond.fieldLink RX0 38 "SharedFibre$Container" "reported" "I" ∈ wsX0_wants := by decide +kernel
theorem lkX0_wants_41 : Cond.fieldLink RX0 41 "SharedFibre$Container" "given" "I" ∈ wsX0_wants := by decide +kernel
set_option maxHeartbeats 4000000 in
set_option maxRecDepth 100000 in
/-- Container.wants -/
theorem c_X0_wants (M : gm_M) (n : Nat) (hn : n < 10) : KC lyC yX0_wants wsX0_wants ({ frames := 0, cells := 0, slots := 0, locals := 0 }) (fun ad => [.ref (ad 0 n)]) M (fun _ => some (.int (if ¬ M 0 6 n ≤ M 0 9 n ∧ ¬ M 0 8 n ≤ M 0 9 n then 1 else 0))) (M) := by
  refine KC.of_z (by decide) rfl rfl (fun _ => by simp) (fun _ => by simp [Value.category]) (by split <;> decide) ?_
  intro X hC hR hX hE
  simp only [List.map_cons, List.map_nil, List.cons_append, List.nil_append, List.length_cons, List.length_nil, List.replicate, Nat.reduceAdd, Nat.reduceSub]
  refine go_aload_n hC dX0_wants_0 rfl ?_
  refine go_geti (ci := 0) hC 9 kwX0_wants_0 rfl rfl (by decide) rfl lkX0_wants_41 (by first | decide | (show _ < 5; omega) | (show _ < 10; omega) | omega) dX0_wants_1 ?_
  refine go_aload_n hC dX0_wants_4 rfl ?_
  refine go_geti (ci := 0) hC 6 kwX0_wants_0 rfl rfl (by decide) rfl lkX0_wants_35 (by first | decide | (show _ < 5; omega) | (show _ < 10; omega) | omega) dX0_wants_5 ?_
  refine go_icmp_ge hC 26 dX0_wants_8 (by decide) (fun h8 => ?_) (fun h8 => ?_)
  ·
    refine go_iconst (v := 0) hC dX0_wants_26 (by decide) ?_
    refine go_cast ?_ ?_ (hE _ _ dX0_wants_27)
    · first | rfl | (simp [*]; done) | (simp [*, gm_us, gm_un1, gm_un2]; done)
    · first | rfl | (simp [*]; done) | (simp [*, gm_us, gm_un1, gm_un2]; done)
  ·
    refine go_aload_n hC dX0_wants_11 rfl ?_
    refine go_geti (ci := 0) hC 9 kwX0_wants_0 rfl rfl (by decide) rfl lkX0_wants_41 (by first | decide | (show _ < 5; omega) | (show _ < 10; omega) | omega) dX0_wants_12 ?_
    refine go_aload_n hC dX0_wants_15 rfl ?_
    refine go_geti (ci := 0) hC 8 kwX0_wants_0 rfl rfl (by decide) rfl lkX0_wants_38 (by first | decide | (show _ < 5; omega) | (show _ < 10; omega) | omega) dX0_wants_16 ?_
    refine go_icmp_ge hC 26 dX0_wants_19 (by decide) (fun h19 => ?_) (fun h19 => ?_)
    ·
      refine go_iconst (v := 0) hC dX0_wants_26 (by decide) ?_
      refine go_cast ?_ ?_ (hE _ _ dX0_wants_27)
      · first | rfl | (simp [*]; done) | (simp [*, gm_us, gm_un1, gm_un2]; done)
      · first | rfl | (simp [*]; done) | (simp [*, gm_us, gm_un1, gm_un2]; done)
    ·
      refine go_iconst (v := 1) hC dX0_wants_22 (by decide) ?_
      refine go_goto hC 27 dX0_wants_23 (by decide) ?_
      refine go_cast ?_ ?_ (hE _ _ dX0_wants_27)
      · first | rfl | (simp [*]; done) | (simp [*, gm_us, gm_un1, gm_un2]; done)
      · first | rfl | (simp [*]; done) | (simp [*, gm_us, gm_un1, gm_un2]; done)
theorem kwX0_hasLessSpareThan_0 : ∀ w ∈ wsX00, w ∈ wsX0_hasLessSpareThan := by decide +kernel
theorem lkX0_hasLessSpareThan_18 : Cond.fieldLink RX0 18 "SharedFibre$Container" "weight" "I" ∈ wsX0_hasLessSpareThan := by decide +kernel
theorem lkX0_hasLessSpareThan_44 : Cond.fieldLink RX0 44 "SharedFibre$Container" "spare" "I" ∈ wsX0_hasLessSpareThan := by decide +kernel
set_option maxHeartbeats 4000000 in
set_option maxRecDepth 100000 in
/-- Container.hasLessSpareThan -/
theorem c_X0_hasLessSpareThan (M : gm_M) (n n2 : Nat) (hn : n < 10) (hn2 : n2 < 10) : KC lyC yX0_hasLessSpareThan wsX0_hasLessSpareThan ({ frames := 0, cells := 0, slots := 0, locals := 0 }) (fun ad => [.ref (ad 0 n), .ref (ad 0 n2)]) M (fun _ => some (.int (if ¬ M 0 10 n2 * M 0 7 n ≤ M 0 10 n * M 0 7 n2 then 1 else 0))) (M) := by
  refine KC.of_z (by decide) rfl rfl (fun _ => by simp) (fun _ => by simp [Value.category]) (by split <;> decide) ?_
  intro X hC hR hX hE
  simp only [List.map_cons, List.map_nil, List.cons_append, List.nil_append, List.length_cons, List.length_nil, List.replicate, Nat.reduceAdd, Nat.reduceSub]
  refine go_aload_n hC dX0_hasLessSpareThan_0 rfl ?_
  refine go_geti (ci := 0) hC 10 kwX0_hasLessSpareThan_0 rfl rfl (by decide) rfl lkX0_hasLessSpareThan_44 (by first | decide | (show _ < 5; omega) | (show _ < 10; omega) | omega) dX0_hasLessSpareThan_1 ?_
  refine go_aload_n hC dX0_hasLessSpareThan_4 rfl ?_
  refine go_geti (ci := 0) hC 7 kwX0_hasLessSpareThan_0 rfl rfl (by decide) rfl lkX0_hasLessSpareThan_18 (by first | decide | (show _ < 5; omega) | (show _ < 10; omega) | omega) dX0_hasLessSpareThan_5 ?_
  refine go_imul hC dX0_hasLessSpareThan_8 ?_
  refine go_aload_n hC dX0_hasLessSpareThan_9 rfl ?_
  refine go_geti (ci := 0) hC 10 kwX0_hasLessSpareThan_0 rfl rfl (by decide) rfl lkX0_hasLessSpareThan_44 (by first | decide | (show _ < 5; omega) | (show _ < 10; omega) | omega) dX0_hasLessSpareThan_10 ?_
  refine go_aload_n hC dX0_hasLessSpareThan_13 rfl ?_
  refine go_geti (ci := 0) hC 7 kwX0_hasLessSpareThan_0 rfl rfl (by decide) rfl lkX0_hasLessSpareThan_18 (by first | decide | (show _ < 5; omega) | (show _ < 10; omega) | omega) dX0_hasLessSpareThan_14 ?_
  refine go_imul hC dX0_hasLessSpareThan_17 ?_
  refine go_icmp_ge hC 25 dX0_hasLessSpareThan_18 (by decide) (fun h18 => ?_) (fun h18 => ?_)
  ·
    refine go_iconst (v := 0) hC dX0_hasLessSpareThan_25 (by decide) ?_
    refine go_cast ?_ ?_ (hE _ _ dX0_hasLessSpareThan_26)
    · first | rfl | (simp [*]; done) | (simp [*, gm_us, gm_un1, gm_un2]; done)
    · first | rfl | (simp [*]; done) | (simp [*, gm_us, gm_un1, gm_un2]; done)
  ·
    refine go_iconst (v := 1) hC dX0_hasLessSpareThan_21 (by decide) ?_
    refine go_goto hC 26 dX0_hasLessSpareThan_22 (by decide) ?_
    refine go_cast ?_ ?_ (hE _ _ dX0_hasLessSpareThan_26)
    · first | rfl | (simp [*]; done) | (simp [*, gm_us, gm_un1, gm_un2]; done)
    · first | rfl | (simp [*]; done) | (simp [*, gm_us, gm_un1, gm_un2]; done)
