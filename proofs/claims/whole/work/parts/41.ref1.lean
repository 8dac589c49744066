/-! ===== the reference (1) ===== -/
noncomputable def cdF (P Q : Prop) : Int32 := @ite _ P (Classical.propDecidable P) 1 (@ite _ Q (Classical.propDecidable Q) 2 0)
theorem cdF_1 {P Q : Prop} (h : P) : cdF P Q = 1 := if_pos h
theorem cdF_2 {P Q : Prop} (h : ¬ P) (h2 : Q) : cdF P Q = 2 := by unfold cdF; rw [if_neg h, if_pos h2]
theorem cdF_0 {P Q : Prop} (h : ¬ P) (h2 : ¬ Q) : cdF P Q = 0 := by unfold cdF; rw [if_neg h, if_neg h2]
noncomputable def tM (P : Prop) (A B : gm_M) : gm_M := @ite _ P (Classical.propDecidable P) A B
theorem tM_t {P : Prop} {A B : gm_M} (h : P) : tM P A B = A := if_pos h
theorem tM_f {P : Prop} {A B : gm_M} (h : ¬ P) : tM P A B = B := if_neg h
theorem tF_ne {P : Prop} (h : ¬ tF P = 0) : P := Classical.byContradiction (fun q => h (tF_f q))
theorem tF_eq {P : Prop} (h : tF P = 0) : ¬ P := fun q => absurd (h.symm.trans (tF_t q)) (by decide)
theorem cdF_e {P Q : Prop} (h : cdF P Q = 0) : ¬ P ∧ ¬ Q := by
  by_cases hp : P
  · rw [cdF_1 hp] at h; exact absurd h (by decide)
  · by_cases hq : Q
    · rw [cdF_2 hp hq] at h; exact absurd h (by decide)
    · exact ⟨hp, hq⟩
theorem cdF_ne {P Q : Prop} (h : ¬ cdF P Q = 0) : P ∨ Q := Classical.byContradiction (fun q => h (cdF_0 (fun p => q (Or.inl p)) (fun p => q (Or.inr p))))
theorem i_le {a b : Int32} : a ≤ b ↔ ¬ b < a := by rw [Int32.le_iff_toInt_le, Int32.lt_iff_toInt_lt]; omega
theorem i_gt (a : Int32) (n : Nat) (hn : n + 1 < 2 ^ 31) : nI n < a ↔ ¬ a < nI (n + 1) := by
  rw [Int32.lt_iff_toInt_lt, Int32.lt_iff_toInt_lt, nI_toInt (by omega), nI_toInt hn]
  omega
theorem i_lt1 (a : Int32) (n : Nat) (hn : n + 1 < 2 ^ 31) : a ≤ nI n ↔ a < nI (n + 1) := by
  rw [Int32.le_iff_toInt_le, Int32.lt_iff_toInt_lt, nI_toInt (by omega), nI_toInt hn]
  omega
theorem bU_of {u : Int32} (h : 4 < u) : bU u := Or.inr ((i_gt u 4 (by decide)).mp h)
theorem bC_of {u : Int32} (h : ¬ u ≤ 1) : bC u := Or.inr (fun q => h ((i_lt1 u 1 (by decide)).mpr q))
theorem bU_no {u : Int32} (h1 : ¬ u < 0) (h2 : ¬ 4 < u) : ¬ bU u := fun q => q.elim h1 (fun q => h2 ((i_gt u 4 (by decide)).mpr q))
theorem bC_no {u : Int32} (h1 : ¬ u < 0) (h2 : u ≤ 1) : ¬ bC u := fun q => q.elim h1 (fun q => q ((i_lt1 u 1 (by decide)).mp h2))
abbrev wM (G : gm_M) (u : Int32) : Prop := bU u ∨ G 2 (uN u) 0 = 0
theorem kwX3_thrown_3 : ∀ w ∈ wsX30, w ∈ wsX3_thrown := by decide +kernel
theorem lkX3_thrown_101 : Cond.fieldLink RX3 101 "SharedFibreModel" "thrown" "I" ∈ wsX3_thrown := by decide +kernel
set_option maxHeartbeats 4000000 in
set_option maxRecDepth 100000 in
/-- the reference: X3_thrown -/
theorem c_X3_thrown (G : gm_M) : KC lyM yX3_thrown wsX3_thrown ({ frames := 0, cells := 0, slots := 0, locals := 0 }) (fun ad => [.ref (ad 0 0)]) G (fun _ => some (.int (G 0 0 0))) (G) := by
  refine KC.of_i (by decide) rfl rfl (fun _ => by simp) (fun _ => by simp [Value.category])  ?_
  intro X hC hR hX hE
  simp only [List.map_cons, List.map_nil, List.cons_append, List.nil_append, List.length_cons, List.length_nil, List.replicate, Nat.reduceAdd, Nat.reduceSub]
  refine go_aload_n hC dX3_thrown_0 rfl ?_
  refine go_geti (ci := 3) hC 0 kwX3_thrown_3 rfl rfl (by decide) rfl lkX3_thrown_101 (by first | decide | (show _ < 5; omega) | (show _ < 10; omega) | omega) dX3_thrown_1 ?_
  refine go_cast ?_ ?_ (hE _ _ dX3_thrown_4)
  · first | rfl | (simp [*]; done) | (simp [*, gm_us, gm_un1, gm_un2]; done)
  · first | rfl | (simp [*]; done) | (simp [*, gm_us, gm_un1, gm_un2]; done)
theorem lcX3_mix_105 : Cond.constant RX3 105 (625341585) ∈ wsX3_mix := by decide +kernel
theorem lcX3_mix_106 : Cond.constant RX3 106 (-1640531535) ∈ wsX3_mix := by decide +kernel
set_option maxHeartbeats 4000000 in
set_option maxRecDepth 100000 in
/-- the reference: X3_mix -/
theorem c_X3_mix (G : gm_M) (a b : Int32) : KC lyM yX3_mix wsX3_mix ({ frames := 0, cells := 0, slots := 0, locals := 0 }) (fun ad => [.ref (ad 0 0), .int a, .int b]) G (fun _ => some (.int (mixF a b))) (G) := by
  refine KC.of_i (by decide) rfl rfl (fun _ => by simp) (fun _ => by simp [Value.category])  ?_
  intro X hC hR hX hE
  simp only [List.map_cons, List.map_nil, List.cons_append, List.nil_append, List.length_cons, List.length_nil, List.replicate, Nat.reduceAdd, Nat.reduceSub]
  refine go_iload_n hC dX3_mix_0 rfl ?_
  refine go_ldc hC lcX3_mix_105 dX3_mix_1 ?_
  refine go_imul hC dX3_mix_3 ?_
  refine go_istore_n hC 3 dX3_mix_4 rfl (Nat.le_of_ble_eq_true rfl) ?_
  simp only [gm_s0, gm_s1]
  refine go_iload_n hC dX3_mix_5 rfl ?_
  refine go_iload_n hC dX3_mix_6 rfl ?_
  refine go_bipush (v := 15) hC dX3_mix_7 (by decide) ?_
  refine go_iushr hC dX3_mix_9 ?_
  refine go_ixor hC dX3_mix_10 ?_
  refine go_istore_n hC 3 dX3_mix_11 rfl (Nat.le_of_ble_eq_true rfl) ?_
  simp only [gm_s0, gm_s1]
  refine go_iload_n hC dX3_mix_12 rfl ?_
  refine go_iload_n hC dX3_mix_13 rfl ?_
  refine go_ixor hC dX3_mix_14 ?_
  refine go_ldc hC lcX3_mix_106 dX3_mix_15 ?_
  refine go_imul hC dX3_mix_17 ?_
  refine go_istore_n hC 3 dX3_mix_18 rfl (Nat.le_of_ble_eq_true rfl) ?_
  simp only [gm_s0, gm_s1]
  refine go_iload_n hC dX3_mix_19 rfl ?_
  refine go_iload_n hC dX3_mix_20 rfl ?_
  refine go_bipush (v := 13) hC dX3_mix_21 (by decide) ?_
  refine go_iushr hC dX3_mix_23 ?_
  refine go_ixor hC dX3_mix_24 ?_
  refine go_cast ?_ ?_ (hE _ _ dX3_mix_25)
  · first | rfl | (simp [*]; done) | (simp [*, gm_us, gm_un1, gm_un2]; done)
  · first | rfl | (simp [*]; done) | (simp [*, gm_us, gm_un1, gm_un2]; done)
theorem kwX3_isAway_3 : ∀ w ∈ wsX30, w ∈ wsX3_isAway := by decide +kernel
theorem lkX3_isAway_7 : Cond.fieldLink RX3 7 "SharedFibreModel" "state" "[I" ∈ wsX3_isAway := by decide +kernel
set_option maxHeartbeats 4000000 in
set_option maxRecDepth 100000 in
/-- the reference: X3_isAway -/
theorem c_X3_isAway (G : gm_M) (u : Int32) : KC lyM yX3_isAway wsX3_isAway ({ frames := 0, cells := 0, slots := 0, locals := 0 }) (fun ad => [.ref (ad 0 0), .int u]) G (fun _ => some (.int (tF (wM G u)))) (G) := by
  refine KC.of_z (by decide) rfl rfl (fun _ => by simp) (fun _ => by simp [Value.category]) (tF_n _) ?_
  intro X hC hR hX hE
  simp only [List.map_cons, List.map_nil, List.cons_append, List.nil_append, List.length_cons, List.length_nil, List.replicate, Nat.reduceAdd, Nat.reduceSub]
  refine go_iload_n hC dX3_isAway_0 rfl ?_
  refine go_if_lt hC 18 dX3_isAway_1 (by decide) (fun h1 => ?_) (fun h1 => ?_)
  ·
    refine go_iconst (v := 1) hC dX3_isAway_18 (by decide) ?_
    refine go_goto hC 23 dX3_isAway_19 (by decide) ?_
    refine go_cast ?_ rfl (hE _ _ dX3_isAway_23)
    first | rw [tF_t (P := wM G u) (Or.inl (Or.inl h1))] | rw [tF_t (P := wM G u) (Or.inl (bU_of h6))] | rw [tF_t (P := wM G u) (Or.inr h15)] | rw [tF_f (P := wM G u) (fun q => q.elim hnb h15)]
  ·
    refine go_iload_n hC dX3_isAway_4 rfl ?_
    refine go_iconst (v := 4) hC dX3_isAway_5 (by decide) ?_
    refine go_icmp_gt hC 18 dX3_isAway_6 (by decide) (fun h6 => ?_) (fun h6 => ?_)
    ·
      refine go_iconst (v := 1) hC dX3_isAway_18 (by decide) ?_
      refine go_goto hC 23 dX3_isAway_19 (by decide) ?_
      refine go_cast ?_ rfl (hE _ _ dX3_isAway_23)
      first | rw [tF_t (P := wM G u) (Or.inl (Or.inl h1))] | rw [tF_t (P := wM G u) (Or.inl (bU_of h6))] | rw [tF_t (P := wM G u) (Or.inr h15)] | rw [tF_f (P := wM G u) (fun q => q.elim hnb h15)]
    ·
      have hnb := bU_no h1 h6
      obtain ⟨hue, hu5⟩ := bU_ix hnb
      refine go_aload_n hC dX3_isAway_9 rfl ?_
      refine go_getr (ci := 3) hC 1 kwX3_isAway_3 rfl rfl (by decide) rfl lkX3_isAway_7 (by first | decide | (show _ < 5; omega) | (show _ < 10; omega) | omega) dX3_isAway_10 ?_
      refine go_iload_n hC dX3_isAway_13 rfl ?_
      refine go_iald hC rfl (by first | decide | (show _ < 5; omega) | (show _ < 10; omega) | omega) (gm_in hue (by omega) (by decide)) (gm_cl hue (by omega)) dX3_isAway_14 ?_
      refine go_if_ne hC 22 dX3_isAway_15 (by decide) (fun h15 => ?_) (fun h15 => ?_)
      ·
        refine go_iconst (v := 0) hC dX3_isAway_22 (by decide) ?_
        refine go_cast ?_ rfl (hE _ _ dX3_isAway_23)
        first | rw [tF_t (P := wM G u) (Or.inl (Or.inl h1))] | rw [tF_t (P := wM G u) (Or.inl (bU_of h6))] | rw [tF_t (P := wM G u) (Or.inr h15)] | rw [tF_f (P := wM G u) (fun q => q.elim hnb h15)]
      ·
        refine go_iconst (v := 1) hC dX3_isAway_18 (by decide) ?_
        refine go_goto hC 23 dX3_isAway_19 (by decide) ?_
        refine go_cast ?_ rfl (hE _ _ dX3_isAway_23)
        first | rw [tF_t (P := wM G u) (Or.inl (Or.inl h1))] | rw [tF_t (P := wM G u) (Or.inl (bU_of h6))] | rw [tF_t (P := wM G u) (Or.inr h15)] | rw [tF_f (P := wM G u) (fun q => q.elim hnb h15)]
set_option maxHeartbeats 4000000 in
set_option maxRecDepth 100000 in
/-- the reference: X3_extra -/
theorem c_X3_extra (G : gm_M) (f : Int32) : KC lyM yX3_extra wsX3_extra ({ frames := 0, cells := 0, slots := 0, locals := 0 }) (fun ad => [.ref (ad 0 0), .int f]) G (fun _ => some (.int (40 * f))) (G) := by
  refine KC.of_i (by decide) rfl rfl (fun _ => by simp) (fun _ => by simp [Value.category])  ?_
  intro X hC hR hX hE
  simp only [List.map_cons, List.map_nil, List.cons_append, List.nil_append, List.length_cons, List.length_nil, List.replicate, Nat.reduceAdd, Nat.reduceSub]
  refine go_bipush (v := 40) hC dX3_extra_0 (by decide) ?_
  refine go_iload_n hC dX3_extra_2 rfl ?_
  refine go_imul hC dX3_extra_3 ?_
  refine go_cast ?_ ?_ (hE _ _ dX3_extra_4)
  · first | rfl | (simp [*]; done) | (simp [*, gm_us, gm_un1, gm_un2]; done)
  · first | rfl | (simp [*]; done) | (simp [*, gm_us, gm_un1, gm_un2]; done)
def erM (G : gm_M) (n : Nat) : Int32 := ((G 4 n 0 + 40 * G 0 7 0) + G 6 n 0) - 1000
def lvM (G : gm_M) (n : Nat) : gm_M := gm_up G 6 n 0 ((1000 - G 4 n 0) - 40 * G 0 7 0)
theorem kwX3_errorOf_3 : ∀ w ∈ wsX30, w ∈ wsX3_errorOf := by decide +kernel
theorem lkX3_errorOf_16 : Cond.fieldLink RX3 16 "SharedFibreModel" "way" "[I" ∈ wsX3_errorOf := by decide +kernel
theorem lkX3_errorOf_22 : Cond.fieldLink RX3 22 "SharedFibreModel" "hold" "[I" ∈ wsX3_errorOf := by decide +kernel
theorem lkX3_errorOf_107 : Cond.fieldLink RX3 107 "SharedFibreModel" "active" "I" ∈ wsX3_errorOf := by decide +kernel
set_option maxHeartbeats 4000000 in
set_option maxRecDepth 100000 in
/-- the reference: X3_errorOf -/
theorem c_X3_errorOf (G : gm_M) (n : Nat) (hn : n < 5) : KC lyM yX3_errorOf wsX3_errorOf ({ frames := 1, cells := 0, slots := 0, locals := 21 }) (fun ad => [.ref (ad 0 0), .int (nI n)]) G (fun _ => some (.int (erM G n))) (G) := by
  refine KC.of_i (by decide) rfl rfl (fun _ => by simp) (fun _ => by simp [Value.category])  ?_
  intro X hC hR hX hE
  simp only [List.map_cons, List.map_nil, List.cons_append, List.nil_append, List.length_cons, List.length_nil, List.replicate, Nat.reduceAdd, Nat.reduceSub]
  refine go_aload_n hC dX3_errorOf_0 rfl ?_
  refine go_getr (ci := 3) hC 3 kwX3_errorOf_3 rfl rfl (by decide) rfl lkX3_errorOf_16 (by first | decide | (show _ < 5; omega) | (show _ < 10; omega) | omega) dX3_errorOf_1 ?_
  refine go_iload_n hC dX3_errorOf_4 rfl ?_
  refine go_iald hC rfl (by first | decide | (show _ < 5; omega) | (show _ < 10; omega) | omega) (gm_in rfl (by omega) (by decide)) (gm_cl rfl (by omega)) dX3_errorOf_5 ?_
  refine go_aload_n hC dX3_errorOf_6 rfl ?_
  refine go_aload_n hC dX3_errorOf_7 rfl ?_
  refine go_geti (ci := 3) hC 7 kwX3_errorOf_3 rfl rfl (by decide) rfl lkX3_errorOf_107 (by first | decide | (show _ < 5; omega) | (show _ < 10; omega) | omega) dX3_errorOf_8 ?_
  refine go_callV (n := 1) (k0 := 0) (n0 := 0) hC hX (c_X3_extra _ _) gX3_errorOf_X3_extra rfl (by decide +kernel) ⟨rfl, rfl⟩ (by rw [hR]; exact ⟨by decide, by decide⟩) (by rw [hR]; exact ⟨by decide, by decide⟩) rfl rfl rfl (by first | decide | (show _ < 5; omega) | (show _ < 10; omega) | omega) rfl rfl rfl (Nat.le_of_ble_eq_true rfl) dX3_errorOf_11 ?_
  simp only [gm_r0, gm_r1]
  refine go_iadd hC dX3_errorOf_14 ?_
  refine go_aload_n hC dX3_errorOf_15 rfl ?_
  refine go_getr (ci := 3) hC 5 kwX3_errorOf_3 rfl rfl (by decide) rfl lkX3_errorOf_22 (by first | decide | (show _ < 5; omega) | (show _ < 10; omega) | omega) dX3_errorOf_16 ?_
  refine go_iload_n hC dX3_errorOf_19 rfl ?_
  refine go_iald hC rfl (by first | decide | (show _ < 5; omega) | (show _ < 10; omega) | omega) (gm_in rfl (by omega) (by decide)) (gm_cl rfl (by omega)) dX3_errorOf_20 ?_
  refine go_iadd hC dX3_errorOf_21 ?_
  refine go_sipush (v := 1000) hC dX3_errorOf_22 (by decide) ?_
  refine go_isub hC dX3_errorOf_25 ?_
  refine go_cast ?_ ?_ (hE _ _ dX3_errorOf_26)
  · first | rfl | (simp [*]; done) | (simp [*, gm_us, gm_un1, gm_un2]; done)
  · first | rfl | (simp [*]; done) | (simp [*, gm_us, gm_un1, gm_un2]; done)
theorem kwX3_level_3 : ∀ w ∈ wsX30, w ∈ wsX3_level := by decide +kernel
theorem lkX3_level_16 : Cond.fieldLink RX3 16 "SharedFibreModel" "way" "[I" ∈ wsX3_level := by decide +kernel
theorem lkX3_level_22 : Cond.fieldLink RX3 22 "SharedFibreModel" "hold" "[I" ∈ wsX3_level := by decide +kernel
theorem lkX3_level_107 : Cond.fieldLink RX3 107 "SharedFibreModel" "active" "I" ∈ wsX3_level := by decide +kernel
set_option maxHeartbeats 4000000 in
set_option maxRecDepth 100000 in
/-- the reference: X3_level -/
theorem c_X3_level (G : gm_M) (n : Nat) (hn : n < 5) : KC lyM yX3_level wsX3_level ({ frames := 1, cells := 0, slots := 0, locals := 21 }) (fun ad => [.ref (ad 0 0), .int (nI n)]) G (fun _ => none) (lvM G n) := by
  refine KC.of_v (by decide) rfl rfl (fun _ => by simp) (fun _ => by simp [Value.category])  ?_
  intro X hC hR hX hE
  simp only [List.map_cons, List.map_nil, List.cons_append, List.nil_append, List.length_cons, List.length_nil, List.replicate, Nat.reduceAdd, Nat.reduceSub]
  refine go_aload_n hC dX3_level_0 rfl ?_
  refine go_getr (ci := 3) hC 5 kwX3_level_3 rfl rfl (by decide) rfl lkX3_level_22 (by first | decide | (show _ < 5; omega) | (show _ < 10; omega) | omega) dX3_level_1 ?_
  refine go_iload_n hC dX3_level_4 rfl ?_
  refine go_sipush (v := 1000) hC dX3_level_5 (by decide) ?_
  refine go_aload_n hC dX3_level_8 rfl ?_
  refine go_getr (ci := 3) hC 3 kwX3_level_3 rfl rfl (by decide) rfl lkX3_level_16 (by first | decide | (show _ < 5; omega) | (show _ < 10; omega) | omega) dX3_level_9 ?_
  refine go_iload_n hC dX3_level_12 rfl ?_
  refine go_iald hC rfl (by first | decide | (show _ < 5; omega) | (show _ < 10; omega) | omega) (gm_in rfl (by omega) (by decide)) (gm_cl rfl (by omega)) dX3_level_13 ?_
  refine go_isub hC dX3_level_14 ?_
  refine go_aload_n hC dX3_level_15 rfl ?_
  refine go_aload_n hC dX3_level_16 rfl ?_
  refine go_geti (ci := 3) hC 7 kwX3_level_3 rfl rfl (by decide) rfl lkX3_level_107 (by first | decide | (show _ < 5; omega) | (show _ < 10; omega) | omega) dX3_level_17 ?_
  refine go_callV (n := 1) (k0 := 0) (n0 := 0) hC hX (c_X3_extra _ _) gX3_level_X3_extra rfl (by decide +kernel) ⟨rfl, rfl⟩ (by rw [hR]; exact ⟨by decide, by decide⟩) (by rw [hR]; exact ⟨by decide, by decide⟩) rfl rfl rfl (by first | decide | (show _ < 5; omega) | (show _ < 10; omega) | omega) rfl rfl rfl (Nat.le_of_ble_eq_true rfl) dX3_level_20 ?_
  simp only [gm_r0, gm_r1]
  refine go_isub hC dX3_level_23 ?_
  refine go_iast hC rfl (by first | decide | (show _ < 5; omega) | (show _ < 10; omega) | omega) (gm_in rfl (by omega) (by decide)) (gm_cl rfl (by omega)) dX3_level_24 ?_
  refine go_cast ?_ ?_ (hE _ _ dX3_level_25)
  · first | rfl | (simp [*]; done) | (simp [*, gm_us, gm_un1, gm_un2]; done)
  · first | rfl | (simp [*]; done) | (simp [*, gm_us, gm_un1, gm_un2]; done)
def emM (G : gm_M) (n : Nat) : gm_M := gm_up (gm_up (gm_up (gm_up (gm_up (gm_up (gm_up G 20 n 0 0) 21 n 0 0) 22 n 0 0) 23 n 0 1) 24 n 0 0) 25 n 0 0) 27 n 0 0
theorem kwX3_empty_3 : ∀ w ∈ wsX30, w ∈ wsX3_empty := by decide +kernel
theorem lkX3_empty_53 : Cond.fieldLink RX3 53 "SharedFibreModel" "fixed" "[I" ∈ wsX3_empty := by decide +kernel
theorem lkX3_empty_56 : Cond.fieldLink RX3 56 "SharedFibreModel" "assured" "[I" ∈ wsX3_empty := by decide +kernel
theorem lkX3_empty_59 : Cond.fieldLink RX3 59 "SharedFibreModel" "most" "[I" ∈ wsX3_empty := by decide +kernel
theorem lkX3_empty_62 : Cond.fieldLink RX3 62 "SharedFibreModel" "weight" "[I" ∈ wsX3_empty := by decide +kernel
theorem lkX3_empty_65 : Cond.fieldLink RX3 65 "SharedFibreModel" "reported" "[I" ∈ wsX3_empty := by decide +kernel
theorem lkX3_empty_68 : Cond.fieldLink RX3 68 "SharedFibreModel" "given" "[I" ∈ wsX3_empty := by decide +kernel
theorem lkX3_empty_74 : Cond.fieldLink RX3 74 "SharedFibreModel" "queued" "[I" ∈ wsX3_empty := by decide +kernel
set_option maxHeartbeats 4000000 in
set_option maxRecDepth 100000 in
/-- the reference: X3_empty -/
theorem c_X3_empty (G : gm_M) (n : Nat) (hn : n < 10) : KC lyM yX3_empty wsX3_empty ({ frames := 0, cells := 0, slots := 0, locals := 0 }) (fun ad => [.ref (ad 0 0), .int (nI n)]) G (fun _ => none) (emM G n) := by
  refine KC.of_v (by decide) rfl rfl (fun _ => by simp) (fun _ => by simp [Value.category])  ?_
  intro X hC hR hX hE
  simp only [List.map_cons, List.map_nil, List.cons_append, List.nil_append, List.length_cons, List.length_nil, List.replicate, Nat.reduceAdd, Nat.reduceSub]
  refine go_aload_n hC dX3_empty_0 rfl ?_
  refine go_getr (ci := 3) hC 19 kwX3_empty_3 rfl rfl (by decide) rfl lkX3_empty_53 (by first | decide | (show _ < 5; omega) | (show _ < 10; omega) | omega) dX3_empty_1 ?_
  refine go_iload_n hC dX3_empty_4 rfl ?_
  refine go_iconst (v := 0) hC dX3_empty_5 (by decide) ?_
  refine go_iast hC rfl (by first | decide | (show _ < 5; omega) | (show _ < 10; omega) | omega) (gm_in rfl (by omega) (by decide)) (gm_cl rfl (by omega)) dX3_empty_6 ?_
  refine go_aload_n hC dX3_empty_7 rfl ?_
  refine go_getr (ci := 3) hC 20 kwX3_empty_3 rfl rfl (by decide) rfl lkX3_empty_56 (by first | decide | (show _ < 5; omega) | (show _ < 10; omega) | omega) dX3_empty_8 ?_
  refine go_iload_n hC dX3_empty_11 rfl ?_
  refine go_iconst (v := 0) hC dX3_empty_12 (by decide) ?_
  refine go_iast hC rfl (by first | decide | (show _ < 5; omega) | (show _ < 10; omega) | omega) (gm_in rfl (by omega) (by decide)) (gm_cl rfl (by omega)) dX3_empty_13 ?_
  refine go_aload_n hC dX3_empty_14 rfl ?_
  refine go_getr (ci := 3) hC 21 kwX3_empty_3 rfl rfl (by decide) rfl lkX3_empty_59 (by first | decide | (show _ < 5; omega) | (show _ < 10; omega) | omega) dX3_empty_15 ?_
  refine go_iload_n hC dX3_empty_18 rfl ?_
  refine go_iconst (v := 0) hC dX3_empty_19 (by decide) ?_
  refine go_iast hC rfl (by first | decide | (show _ < 5; omega) | (show _ < 10; omega) | omega) (gm_in rfl (by omega) (by decide)) (gm_cl rfl (by omega)) dX3_empty_20 ?_
  refine go_aload_n hC dX3_empty_21 rfl ?_
  refine go_getr (ci := 3) hC 22 kwX3_empty_3 rfl rfl (by decide) rfl lkX3_empty_62 (by first | decide | (show _ < 5; omega) | (show _ < 10; omega) | omega) dX3_empty_22 ?_
  refine go_iload_n hC dX3_empty_25 rfl ?_
  refine go_iconst (v := 1) hC dX3_empty_26 (by decide) ?_
  refine go_iast hC rfl (by first | decide | (show _ < 5; omega) | (show _ < 10; omega) | omega) (gm_in rfl (by omega) (by decide)) (gm_cl rfl (by omega)) dX3_empty_27 ?_
  refine go_aload_n hC dX3_empty_28 rfl ?_
  refine go_getr (ci := 3) hC 23 kwX3_empty_3 rfl rfl (by decide) rfl lkX3_empty_65 (by first | decide | (show _ < 5; omega) | (show _ < 10; omega) | omega) dX3_empty_29 ?_
  refine go_iload_n hC dX3_empty_32 rfl ?_
  refine go_iconst (v := 0) hC dX3_empty_33 (by decide) ?_
  refine go_iast hC rfl (by first | decide | (show _ < 5; omega) | (show _ < 10; omega) | omega) (gm_in rfl (by omega) (by decide)) (gm_cl rfl (by omega)) dX3_empty_34 ?_
  refine go_aload_n hC dX3_empty_35 rfl ?_
  refine go_getr (ci := 3) hC 24 kwX3_empty_3 rfl rfl (by decide) rfl lkX3_empty_68 (by first | decide | (show _ < 5; omega) | (show _ < 10; omega) | omega) dX3_empty_36 ?_
  refine go_iload_n hC dX3_empty_39 rfl ?_
  refine go_iconst (v := 0) hC dX3_empty_40 (by decide) ?_
  refine go_iast hC rfl (by first | decide | (show _ < 5; omega) | (show _ < 10; omega) | omega) (gm_in rfl (by omega) (by decide)) (gm_cl rfl (by omega)) dX3_empty_41 ?_
  refine go_aload_n hC dX3_empty_42 rfl ?_
  refine go_getr (ci := 3) hC 26 kwX3_empty_3 rfl rfl (by decide) rfl lkX3_empty_74 (by first | decide | (show _ < 5; omega) | (show _ < 10; omega) | omega) dX3_empty_43 ?_
  refine go_iload_n hC dX3_empty_46 rfl ?_
  refine go_iconst (v := 0) hC dX3_empty_47 (by decide) ?_
  refine go_iast hC rfl (by first | decide | (show _ < 5; omega) | (show _ < 10; omega) | omega) (gm_in rfl (by omega) (by decide)) (gm_cl rfl (by omega)) dX3_empty_48 ?_
  refine go_cast ?_ ?_ (hE _ _ dX3_empty_49)
  · first | rfl | (simp [*]; done) | (simp [*, gm_us, gm_un1, gm_un2]; done)
  · first | rfl | (simp [*]; done) | (simp [*, gm_us, gm_un1, gm_un2]; done)
theorem kwX3_unplug_3 : ∀ w ∈ wsX30, w ∈ wsX3_unplug := by decide +kernel
theorem lkX3_unplug_7 : Cond.fieldLink RX3 7 "SharedFibreModel" "state" "[I" ∈ wsX3_unplug := by decide +kernel
theorem lkX3_unplug_101 : Cond.fieldLink RX3 101 "SharedFibreModel" "thrown" "I" ∈ wsX3_unplug := by decide +kernel
set_option maxHeartbeats 4000000 in
set_option maxRecDepth 100000 in
/-- the reference: X3_unplug -/
theorem c_X3_unplug (G : gm_M) (u : Int32) : KC lyM yX3_unplug wsX3_unplug ({ frames := 1, cells := 0, slots := 0, locals := 21 }) (fun ad => [.ref (ad 0 0), .int u]) G (fun _ => none) (tM (wM G u) (gm_up G 0 0 0 1) (emM (emM (gm_up (gm_up G 0 0 0 0) 2 (uN u) 0 0) (2 * uN u)) (2 * uN u + 1))) := by
  refine KC.of_v (by decide) rfl rfl (fun _ => by simp) (fun _ => by simp [Value.category])  ?_
  intro X hC hR hX hE
  simp only [List.map_cons, List.map_nil, List.cons_append, List.nil_append, List.length_cons, List.length_nil, List.replicate, Nat.reduceAdd, Nat.reduceSub]
  refine go_aload_n hC dX3_unplug_0 rfl ?_
  refine go_joinI (jpc := 14) (tF (wM G u)) ?_ (fun hj14 => ?_)
  ·
    refine go_puti (ci := 3) hC 0 kwX3_unplug_3 rfl tyX3 tyX3_ok nmX3 rfl (by decide) rfl lkX3_unplug_101 (by first | decide | (show _ < 5; omega) | (show _ < 10; omega) | omega) rfl rfl rfl dX3_unplug_14 ?_
    refine go_aload_n hC dX3_unplug_17 rfl ?_
    refine go_geti (ci := 3) hC 0 kwX3_unplug_3 rfl rfl (by decide) rfl lkX3_unplug_101 (by first | decide | (show _ < 5; omega) | (show _ < 10; omega) | omega) dX3_unplug_18 ?_
    refine go_if_ne hC 47 dX3_unplug_21 (by decide) (fun h21 => ?_) (fun h21 => ?_)
    ·
      rw [gm_us] at h21
      have hw := tF_ne h21
      refine go_cast rfl ?_ (hE _ _ dX3_unplug_47)
      first | (rw [tM_t hw, tF_t hw]; done) | (rw [tM_f hnw, tF_f hnw])
    ·
      rw [gm_us] at h21
      have hnw : ¬ wM G u := tF_eq h21
      obtain ⟨hue, hu5⟩ := bU_ix (fun q => hnw (Or.inl q))
      have hu2 : (2 : Int32) * u = nI (2 * uN u) := (congrArg (2 * ·) hue).trans (pk_mul 2 (uN u))
      refine go_aload_n hC dX3_unplug_24 rfl ?_
      refine go_getr (ci := 3) hC 1 kwX3_unplug_3 rfl rfl (by decide) rfl lkX3_unplug_7 (by first | decide | (show _ < 5; omega) | (show _ < 10; omega) | omega) dX3_unplug_25 ?_
      refine go_iload_n hC dX3_unplug_28 rfl ?_
      refine go_iconst (v := 0) hC dX3_unplug_29 (by decide) ?_
      refine go_iast hC rfl (by first | decide | (show _ < 5; omega) | (show _ < 10; omega) | omega) (gm_in hue (by omega) (by decide)) (gm_cl hue (by omega)) dX3_unplug_30 ?_
      refine go_aload_n hC dX3_unplug_31 rfl ?_
      refine go_iconst (v := 2) hC dX3_unplug_32 (by decide) ?_
      refine go_iload_n hC dX3_unplug_33 rfl ?_
      refine go_imul hC dX3_unplug_34 ?_
      rw [hu2]
      refine go_callV (n := 1) (k0 := 0) (n0 := 0) hC hX (c_X3_empty _ (2 * uN u) (by omega)) gX3_unplug_X3_empty rfl (by decide +kernel) ⟨rfl, rfl⟩ (by rw [hR]; exact ⟨by decide, by decide⟩) (by rw [hR]; exact ⟨by decide, by decide⟩) rfl rfl rfl (by first | decide | (show _ < 5; omega) | (show _ < 10; omega) | omega) rfl rfl rfl (Nat.le_of_ble_eq_true rfl) dX3_unplug_35 ?_
      simp only [gm_r0, gm_r1]
      refine go_aload_n hC dX3_unplug_38 rfl ?_
      refine go_iconst (v := 2) hC dX3_unplug_39 (by decide) ?_
      refine go_iload_n hC dX3_unplug_40 rfl ?_
      refine go_imul hC dX3_unplug_41 ?_
      refine go_iconst (v := 1) hC dX3_unplug_42 (by decide) ?_
      refine go_iadd hC dX3_unplug_43 ?_
      rw [hu2, nI_1]
      refine go_callV (n := 1) (k0 := 0) (n0 := 0) hC hX (c_X3_empty _ (2 * uN u + 1) (by omega)) gX3_unplug_X3_empty rfl (by decide +kernel) ⟨rfl, rfl⟩ (by rw [hR]; exact ⟨by decide, by decide⟩) (by rw [hR]; exact ⟨by decide, by decide⟩) rfl rfl rfl (by first | decide | (show _ < 5; omega) | (show _ < 10; omega) | omega) rfl rfl rfl (Nat.le_of_ble_eq_true rfl) dX3_unplug_44 ?_
      simp only [gm_r0, gm_r1]
      refine go_cast rfl ?_ (hE _ _ dX3_unplug_47)
      first | (rw [tM_t hw, tF_t hw]; done) | (rw [tM_f hnw, tF_f hnw])
  ·
    refine go_aload_n hC dX3_unplug_1 rfl ?_
    refine go_iload_n hC dX3_unplug_2 rfl ?_
    refine go_callV (n := 1) (k0 := 0) (n0 := 0) hC hX (c_X3_isAway _ _) gX3_unplug_X3_isAway rfl (by decide +kernel) ⟨rfl, rfl⟩ (by rw [hR]; exact ⟨by decide, by decide⟩) (by rw [hR]; exact ⟨by decide, by decide⟩) rfl rfl rfl (by first | decide | (show _ < 5; omega) | (show _ < 10; omega) | omega) rfl rfl rfl (Nat.le_of_ble_eq_true rfl) dX3_unplug_3 ?_
    simp only [gm_r0, gm_r1]
    refine go_if_eq hC 13 dX3_unplug_6 (by decide) (fun h6 => ?_) (fun h6 => ?_)
    ·
      refine go_iconst (v := 0) hC dX3_unplug_13 (by decide) ?_
      refine go_cast ?_ rfl hj14
      first | rw [tF_t (tF_ne h6)] | rw [tF_f (tF_eq h6)]
    ·
      refine go_iconst (v := 1) hC dX3_unplug_9 (by decide) ?_
      refine go_goto hC 14 dX3_unplug_10 (by decide) ?_
      refine go_cast ?_ rfl hj14
      first | rw [tF_t (tF_ne h6)] | rw [tF_f (tF_eq h6)]
set_option maxHeartbeats 4000000 in
set_option maxRecDepth 100000 in
/-- the reference: X3_noContainer -/
theorem c_X3_noContainer (G : gm_M) (u c : Int32) : KC lyM yX3_noContainer wsX3_noContainer ({ frames := 1, cells := 0, slots := 0, locals := 21 }) (fun ad => [.ref (ad 0 0), .int u, .int c]) G (fun _ => some (.int (tF (wM G u ∨ bC c)))) (G) := by
  refine KC.of_z (by decide) rfl rfl (fun _ => by simp) (fun _ => by simp [Value.category]) (tF_n _) ?_
  intro X hC hR hX hE
  simp only [List.map_cons, List.map_nil, List.cons_append, List.nil_append, List.length_cons, List.length_nil, List.replicate, Nat.reduceAdd, Nat.reduceSub]
  refine go_aload_n hC dX3_noContainer_0 rfl ?_
  refine go_iload_n hC dX3_noContainer_1 rfl ?_
  refine go_callV (n := 1) (k0 := 0) (n0 := 0) hC hX (c_X3_isAway _ _) gX3_noContainer_X3_isAway rfl (by decide +kernel) ⟨rfl, rfl⟩ (by rw [hR]; exact ⟨by decide, by decide⟩) (by rw [hR]; exact ⟨by decide, by decide⟩) rfl rfl rfl (by first | decide | (show _ < 5; omega) | (show _ < 10; omega) | omega) rfl rfl rfl (Nat.le_of_ble_eq_true rfl) dX3_noContainer_2 ?_
  simp only [gm_r0, gm_r1]
  refine go_if_ne hC 17 dX3_noContainer_5 (by decide) (fun h5 => ?_) (fun h5 => ?_)
  ·
    refine go_iconst (v := 1) hC dX3_noContainer_17 (by decide) ?_
    refine go_goto hC 22 dX3_noContainer_18 (by decide) ?_
    refine go_cast ?_ rfl (hE _ _ dX3_noContainer_22)
    first | rw [tF_t (P := wM G u ∨ bC c) (Or.inl (tF_ne h5))] | rw [tF_t (P := wM G u ∨ bC c) (Or.inr (Or.inl h9))] | rw [tF_t (P := wM G u ∨ bC c) (Or.inr (bC_of h14))] | rw [tF_f (P := wM G u ∨ bC c) (fun q => q.elim (tF_eq h5) (bC_no h9 h14))]
  ·
    refine go_iload_n hC dX3_noContainer_8 rfl ?_
    refine go_if_lt hC 17 dX3_noContainer_9 (by decide) (fun h9 => ?_) (fun h9 => ?_)
    ·
      refine go_iconst (v := 1) hC dX3_noContainer_17 (by decide) ?_
      refine go_goto hC 22 dX3_noContainer_18 (by decide) ?_
      refine go_cast ?_ rfl (hE _ _ dX3_noContainer_22)
      first | rw [tF_t (P := wM G u ∨ bC c) (Or.inl (tF_ne h5))] | rw [tF_t (P := wM G u ∨ bC c) (Or.inr (Or.inl h9))] | rw [tF_t (P := wM G u ∨ bC c) (Or.inr (bC_of h14))] | rw [tF_f (P := wM G u ∨ bC c) (fun q => q.elim (tF_eq h5) (bC_no h9 h14))]
    ·
      refine go_iload_n hC dX3_noContainer_12 rfl ?_
      refine go_iconst (v := 1) hC dX3_noContainer_13 (by decide) ?_
      refine go_icmp_le hC 21 dX3_noContainer_14 (by decide) (fun h14 => ?_) (fun h14 => ?_)
      ·
        refine go_iconst (v := 0) hC dX3_noContainer_21 (by decide) ?_
        refine go_cast ?_ rfl (hE _ _ dX3_noContainer_22)
        first | rw [tF_t (P := wM G u ∨ bC c) (Or.inl (tF_ne h5))] | rw [tF_t (P := wM G u ∨ bC c) (Or.inr (Or.inl h9))] | rw [tF_t (P := wM G u ∨ bC c) (Or.inr (bC_of h14))] | rw [tF_f (P := wM G u ∨ bC c) (fun q => q.elim (tF_eq h5) (bC_no h9 h14))]
      ·
        refine go_iconst (v := 1) hC dX3_noContainer_17 (by decide) ?_
        refine go_goto hC 22 dX3_noContainer_18 (by decide) ?_
        refine go_cast ?_ rfl (hE _ _ dX3_noContainer_22)
        first | rw [tF_t (P := wM G u ∨ bC c) (Or.inl (tF_ne h5))] | rw [tF_t (P := wM G u ∨ bC c) (Or.inr (Or.inl h9))] | rw [tF_t (P := wM G u ∨ bC c) (Or.inr (bC_of h14))] | rw [tF_f (P := wM G u ∨ bC c) (fun q => q.elim (tF_eq h5) (bC_no h9 h14))]
theorem kwX3_down_3 : ∀ w ∈ wsX30, w ∈ wsX3_down := by decide +kernel
theorem lkX3_down_41 : Cond.fieldLink RX3 41 "SharedFibreModel" "hasWord" "[Z" ∈ wsX3_down := by decide +kernel
theorem lkX3_down_44 : Cond.fieldLink RX3 44 "SharedFibreModel" "word" "[I" ∈ wsX3_down := by decide +kernel
theorem lkX3_down_101 : Cond.fieldLink RX3 101 "SharedFibreModel" "thrown" "I" ∈ wsX3_down := by decide +kernel
set_option maxHeartbeats 4000000 in
set_option maxRecDepth 100000 in
/-- the reference: X3_down -/
theorem c_X3_down (G : gm_M) (u a : Int32) : KC lyM yX3_down wsX3_down ({ frames := 1, cells := 0, slots := 0, locals := 21 }) (fun ad => [.ref (ad 0 0), .int u, .int a]) G (fun _ => none) (tM (wM G u) (gm_up G 0 0 0 1) (gm_up (gm_up (gm_up G 0 0 0 0) 17 (uN u) 0 a) 16 (uN u) 0 1)) := by
  refine KC.of_v (by decide) rfl rfl (fun _ => by simp) (fun _ => by simp [Value.category])  ?_
  intro X hC hR hX hE
  simp only [List.map_cons, List.map_nil, List.cons_append, List.nil_append, List.length_cons, List.length_nil, List.replicate, Nat.reduceAdd, Nat.reduceSub]
  refine go_aload_n hC dX3_down_0 rfl ?_
  refine go_joinI (jpc := 14) (tF (wM G u)) ?_ (fun hj14 => ?_)
  ·
    refine go_puti (ci := 3) hC 0 kwX3_down_3 rfl tyX3 tyX3_ok nmX3 rfl (by decide) rfl lkX3_down_101 (by first | decide | (show _ < 5; omega) | (show _ < 10; omega) | omega) rfl rfl rfl dX3_down_14 ?_
    refine go_aload_n hC dX3_down_17 rfl ?_
    refine go_geti (ci := 3) hC 0 kwX3_down_3 rfl rfl (by decide) rfl lkX3_down_101 (by first | decide | (show _ < 5; omega) | (show _ < 10; omega) | omega) dX3_down_18 ?_
    refine go_if_ne hC 38 dX3_down_21 (by decide) (fun h21 => ?_) (fun h21 => ?_)
    ·
      rw [gm_us] at h21
      have hw := tF_ne h21
      refine go_cast rfl ?_ (hE _ _ dX3_down_38)
      first | (rw [tM_t hw, tF_t hw]; done) | (rw [tM_f hnw, tF_f hnw])
      try rfl
    ·
      rw [gm_us] at h21
      have hnw : ¬ wM G u := tF_eq h21
      obtain ⟨hue, hu5⟩ := bU_ix (fun q => hnw (Or.inl q))
      refine go_aload_n hC dX3_down_24 rfl ?_
      refine go_getr (ci := 3) hC 16 kwX3_down_3 rfl rfl (by decide) rfl lkX3_down_44 (by first | decide | (show _ < 5; omega) | (show _ < 10; omega) | omega) dX3_down_25 ?_
      refine go_iload_n hC dX3_down_28 rfl ?_
      refine go_iload_n hC dX3_down_29 rfl ?_
      refine go_iast hC rfl (by first | decide | (show _ < 5; omega) | (show _ < 10; omega) | omega) (gm_in hue (by omega) (by decide)) (gm_cl hue (by omega)) dX3_down_30 ?_
      refine go_aload_n hC dX3_down_31 rfl ?_
      refine go_getr (ci := 3) hC 15 kwX3_down_3 rfl rfl (by decide) rfl lkX3_down_41 (by first | decide | (show _ < 5; omega) | (show _ < 10; omega) | omega) dX3_down_32 ?_
      refine go_iload_n hC dX3_down_35 rfl ?_
      refine go_iconst (v := 1) hC dX3_down_36 (by decide) ?_
      refine go_zast hC rfl (by first | decide | (show _ < 5; omega) | (show _ < 10; omega) | omega) (gm_in hue (by omega) (by decide)) (gm_cl hue (by omega)) dX3_down_37 ?_
      refine go_cast rfl ?_ (hE _ _ dX3_down_38)
      first | (rw [tM_t hw, tF_t hw]; done) | (rw [tM_f hnw, tF_f hnw])
      try rfl
  ·
    refine go_aload_n hC dX3_down_1 rfl ?_
    refine go_iload_n hC dX3_down_2 rfl ?_
    refine go_callV (n := 1) (k0 := 0) (n0 := 0) hC hX (c_X3_isAway _ _) gX3_down_X3_isAway rfl (by decide +kernel) ⟨rfl, rfl⟩ (by rw [hR]; exact ⟨by decide, by decide⟩) (by rw [hR]; exact ⟨by decide, by decide⟩) rfl rfl rfl (by first | decide | (show _ < 5; omega) | (show _ < 10; omega) | omega) rfl rfl rfl (Nat.le_of_ble_eq_true rfl) dX3_down_3 ?_
    simp only [gm_r0, gm_r1]
    refine go_if_eq hC 13 dX3_down_6 (by decide) (fun h6 => ?_) (fun h6 => ?_)
    ·
      refine go_iconst (v := 0) hC dX3_down_13 (by decide) ?_
      refine go_cast ?_ rfl hj14
      first | rw [tF_t (tF_ne h6)] | rw [tF_f (tF_eq h6)]
    ·
      refine go_iconst (v := 1) hC dX3_down_9 (by decide) ?_
      refine go_goto hC 14 dX3_down_10 (by decide) ?_
      refine go_cast ?_ rfl hj14
      first | rw [tF_t (tF_ne h6)] | rw [tF_f (tF_eq h6)]
theorem kwX3_spoil_3 : ∀ w ∈ wsX30, w ∈ wsX3_spoil := by decide +kernel
theorem lkX3_spoil_25 : Cond.fieldLink RX3 25 "SharedFibreModel" "spoilt" "[Z" ∈ wsX3_spoil := by decide +kernel
theorem lkX3_spoil_101 : Cond.fieldLink RX3 101 "SharedFibreModel" "thrown" "I" ∈ wsX3_spoil := by decide +kernel
set_option maxHeartbeats 4000000 in
set_option maxRecDepth 100000 in
/-- the reference: X3_spoil -/
theorem c_X3_spoil (G : gm_M) (u : Int32) : KC lyM yX3_spoil wsX3_spoil ({ frames := 1, cells := 0, slots := 0, locals := 21 }) (fun ad => [.ref (ad 0 0), .int u]) G (fun _ => none) (tM (wM G u) (gm_up G 0 0 0 1) (gm_up (gm_up G 0 0 0 0) 7 (uN u) 0 1)) := by
  refine KC.of_v (by decide) rfl rfl (fun _ => by simp) (fun _ => by simp [Value.category])  ?_
  intro X hC hR hX hE
  simp only [List.map_cons, List.map_nil, List.cons_append, List.nil_append, List.length_cons, List.length_nil, List.replicate, Nat.reduceAdd, Nat.reduceSub]
  refine go_aload_n hC dX3_spoil_0 rfl ?_
  refine go_joinI (jpc := 14) (tF (wM G u)) ?_ (fun hj14 => ?_)
  ·
    refine go_puti (ci := 3) hC 0 kwX3_spoil_3 rfl tyX3 tyX3_ok nmX3 rfl (by decide) rfl lkX3_spoil_101 (by first | decide | (show _ < 5; omega) | (show _ < 10; omega) | omega) rfl rfl rfl dX3_spoil_14 ?_
    refine go_aload_n hC dX3_spoil_17 rfl ?_
    refine go_geti (ci := 3) hC 0 kwX3_spoil_3 rfl rfl (by decide) rfl lkX3_spoil_101 (by first | decide | (show _ < 5; omega) | (show _ < 10; omega) | omega) dX3_spoil_18 ?_
    refine go_if_ne hC 31 dX3_spoil_21 (by decide) (fun h21 => ?_) (fun h21 => ?_)
    ·
      rw [gm_us] at h21
      have hw := tF_ne h21
      refine go_cast rfl ?_ (hE _ _ dX3_spoil_31)
      first | (rw [tM_t hw, tF_t hw]; done) | (rw [tM_f hnw, tF_f hnw])
      try rfl
    ·
      rw [gm_us] at h21
      have hnw : ¬ wM G u := tF_eq h21
      obtain ⟨hue, hu5⟩ := bU_ix (fun q => hnw (Or.inl q))
      refine go_aload_n hC dX3_spoil_24 rfl ?_
      refine go_getr (ci := 3) hC 6 kwX3_spoil_3 rfl rfl (by decide) rfl lkX3_spoil_25 (by first | decide | (show _ < 5; omega) | (show _ < 10; omega) | omega) dX3_spoil_25 ?_
      refine go_iload_n hC dX3_spoil_28 rfl ?_
      refine go_iconst (v := 1) hC dX3_spoil_29 (by decide) ?_
      refine go_zast hC rfl (by first | decide | (show _ < 5; omega) | (show _ < 10; omega) | omega) (gm_in hue (by omega) (by decide)) (gm_cl hue (by omega)) dX3_spoil_30 ?_
      refine go_cast rfl ?_ (hE _ _ dX3_spoil_31)
      first | (rw [tM_t hw, tF_t hw]; done) | (rw [tM_f hnw, tF_f hnw])
      try rfl
  ·
    refine go_aload_n hC dX3_spoil_1 rfl ?_
    refine go_iload_n hC dX3_spoil_2 rfl ?_
    refine go_callV (n := 1) (k0 := 0) (n0 := 0) hC hX (c_X3_isAway _ _) gX3_spoil_X3_isAway rfl (by decide +kernel) ⟨rfl, rfl⟩ (by rw [hR]; exact ⟨by decide, by decide⟩) (by rw [hR]; exact ⟨by decide, by decide⟩) rfl rfl rfl (by first | decide | (show _ < 5; omega) | (show _ < 10; omega) | omega) rfl rfl rfl (Nat.le_of_ble_eq_true rfl) dX3_spoil_3 ?_
    simp only [gm_r0, gm_r1]
    refine go_if_eq hC 13 dX3_spoil_6 (by decide) (fun h6 => ?_) (fun h6 => ?_)
    ·
      refine go_iconst (v := 0) hC dX3_spoil_13 (by decide) ?_
      refine go_cast ?_ rfl hj14
      first | rw [tF_t (tF_ne h6)] | rw [tF_f (tF_eq h6)]
    ·
      refine go_iconst (v := 1) hC dX3_spoil_9 (by decide) ?_
      refine go_goto hC 14 dX3_spoil_10 (by decide) ?_
      refine go_cast ?_ rfl hj14
      first | rw [tF_t (tF_ne h6)] | rw [tF_f (tF_eq h6)]
theorem kwX3_feeder_3 : ∀ w ∈ wsX30, w ∈ wsX3_feeder := by decide +kernel
theorem lkX3_feeder_29 : Cond.fieldLink RX3 29 "SharedFibreModel" "cut" "[Z" ∈ wsX3_feeder := by decide +kernel
theorem lkX3_feeder_101 : Cond.fieldLink RX3 101 "SharedFibreModel" "thrown" "I" ∈ wsX3_feeder := by decide +kernel
set_option maxHeartbeats 4000000 in
set_option maxRecDepth 100000 in
/-- the reference: X3_feeder -/
theorem c_X3_feeder (G : gm_M) (f z : Int32) : KC lyM yX3_feeder wsX3_feeder ({ frames := 0, cells := 0, slots := 0, locals := 0 }) (fun ad => [.ref (ad 0 0), .int f, .int z]) G (fun _ => none) (tM (bC f) (gm_up G 0 0 0 1) (gm_up (gm_up G 0 0 0 0) 9 (uN f) 0 (vp_nar .boolean z))) := by
  refine KC.of_v (by decide) rfl rfl (fun _ => by simp) (fun _ => by simp [Value.category])  ?_
  intro X hC hR hX hE
  simp only [List.map_cons, List.map_nil, List.cons_append, List.nil_append, List.length_cons, List.length_nil, List.replicate, Nat.reduceAdd, Nat.reduceSub]
  refine go_aload_n hC dX3_feeder_0 rfl ?_
  refine go_joinI (jpc := 15) (tF (bC f)) ?_ (fun hj15 => ?_)
  ·
    refine go_puti (ci := 3) hC 0 kwX3_feeder_3 rfl tyX3 tyX3_ok nmX3 rfl (by decide) rfl lkX3_feeder_101 (by first | decide | (show _ < 5; omega) | (show _ < 10; omega) | omega) rfl rfl rfl dX3_feeder_15 ?_
    refine go_aload_n hC dX3_feeder_18 rfl ?_
    refine go_geti (ci := 3) hC 0 kwX3_feeder_3 rfl rfl (by decide) rfl lkX3_feeder_101 (by first | decide | (show _ < 5; omega) | (show _ < 10; omega) | omega) dX3_feeder_19 ?_
    refine go_if_ne hC 32 dX3_feeder_22 (by decide) (fun h22 => ?_) (fun h22 => ?_)
    ·
      rw [gm_us] at h22
      have hw := tF_ne h22
      refine go_cast rfl ?_ (hE _ _ dX3_feeder_32)
      first | (rw [tM_t hw, tF_t hw]; done) | (rw [tM_f hnw, tF_f hnw])
    ·
      rw [gm_us] at h22
      have hnw : ¬ bC f := tF_eq h22
      obtain ⟨hue, hu2⟩ := bC_ix hnw
      refine go_aload_n hC dX3_feeder_25 rfl ?_
      refine go_getr (ci := 3) hC 8 kwX3_feeder_3 rfl rfl (by decide) rfl lkX3_feeder_29 (by first | decide | (show _ < 5; omega) | (show _ < 10; omega) | omega) dX3_feeder_26 ?_
      refine go_iload_n hC dX3_feeder_29 rfl ?_
      refine go_iload_n hC dX3_feeder_30 rfl ?_
      refine go_zast hC rfl (by first | decide | (show _ < 5; omega) | (show _ < 10; omega) | omega) (gm_in hue (by omega) (by decide)) (gm_cl hue (by omega)) dX3_feeder_31 ?_
      refine go_cast rfl ?_ (hE _ _ dX3_feeder_32)
      first | (rw [tM_t hw, tF_t hw]; done) | (rw [tM_f hnw, tF_f hnw])
  ·
    refine go_iload_n hC dX3_feeder_1 rfl ?_
    refine go_if_lt hC 10 dX3_feeder_2 (by decide) (fun h2 => ?_) (fun h2 => ?_)
    ·
      refine go_iconst (v := 1) hC dX3_feeder_10 (by decide) ?_
      refine go_goto hC 15 dX3_feeder_11 (by decide) ?_
      refine go_cast ?_ rfl hj15
      first | rw [tF_t (P := bC f) (Or.inl h2)] | rw [tF_t (bC_of h7)] | rw [tF_f (bC_no h2 h7)]
    ·
      refine go_iload_n hC dX3_feeder_5 rfl ?_
      refine go_iconst (v := 1) hC dX3_feeder_6 (by decide) ?_
      refine go_icmp_le hC 14 dX3_feeder_7 (by decide) (fun h7 => ?_) (fun h7 => ?_)
      ·
        refine go_iconst (v := 0) hC dX3_feeder_14 (by decide) ?_
        refine go_cast ?_ rfl hj15
        first | rw [tF_t (P := bC f) (Or.inl h2)] | rw [tF_t (bC_of h7)] | rw [tF_f (bC_no h2 h7)]
      ·
        refine go_iconst (v := 1) hC dX3_feeder_10 (by decide) ?_
        refine go_goto hC 15 dX3_feeder_11 (by decide) ?_
        refine go_cast ?_ rfl hj15
        first | rw [tF_t (P := bC f) (Or.inl h2)] | rw [tF_t (bC_of h7)] | rw [tF_f (bC_no h2 h7)]
theorem kwX3_discover_3 : ∀ w ∈ wsX30, w ∈ wsX3_discover := by decide +kernel
theorem lkX3_discover_101 : Cond.fieldLink RX3 101 "SharedFibreModel" "thrown" "I" ∈ wsX3_discover := by decide +kernel
theorem lkX3_discover_129 : Cond.fieldLink RX3 129 "SharedFibreModel" "quiet" "Z" ∈ wsX3_discover := by decide +kernel
set_option maxHeartbeats 4000000 in
set_option maxRecDepth 100000 in
/-- the reference: X3_discover -/
theorem c_X3_discover (G : gm_M) : KC lyM yX3_discover wsX3_discover ({ frames := 0, cells := 0, slots := 0, locals := 0 }) (fun ad => [.ref (ad 0 0)]) G (fun _ => none) (gm_up (gm_up G 0 0 0 0) 0 10 0 1) := by
  refine KC.of_v (by decide) rfl rfl (fun _ => by simp) (fun _ => by simp [Value.category])  ?_
  intro X hC hR hX hE
  simp only [List.map_cons, List.map_nil, List.cons_append, List.nil_append, List.length_cons, List.length_nil, List.replicate, Nat.reduceAdd, Nat.reduceSub]
  refine go_aload_n hC dX3_discover_0 rfl ?_
  refine go_iconst (v := 0) hC dX3_discover_1 (by decide) ?_
  refine go_puti (ci := 3) hC 0 kwX3_discover_3 rfl tyX3 tyX3_ok nmX3 rfl (by decide) rfl lkX3_discover_101 (by first | decide | (show _ < 5; omega) | (show _ < 10; omega) | omega) rfl rfl rfl dX3_discover_2 ?_
  refine go_aload_n hC dX3_discover_5 rfl ?_
  refine go_iconst (v := 1) hC dX3_discover_6 (by decide) ?_
  refine go_puti (ci := 3) hC 10 kwX3_discover_3 rfl tyX3 tyX3_ok nmX3 rfl (by decide) rfl lkX3_discover_129 (by first | decide | (show _ < 5; omega) | (show _ < 10; omega) | omega) rfl (by decide) (by decide) dX3_discover_7 ?_
  refine go_cast ?_ ?_ (hE _ _ dX3_discover_10)
  · first | rfl | (simp [*]; done) | (simp [*, gm_us, gm_un1, gm_un2]; done)
  · first | rfl | (simp [*]; done) | (simp [*, gm_us, gm_un1, gm_un2]; done)
theorem kwX3_key_3 : ∀ w ∈ wsX30, w ∈ wsX3_key := by decide +kernel
theorem lkX3_key_35 : Cond.fieldLink RX3 35 "SharedFibreModel" "waiting" "[I" ∈ wsX3_key := by decide +kernel
theorem lkX3_key_101 : Cond.fieldLink RX3 101 "SharedFibreModel" "thrown" "I" ∈ wsX3_key := by decide +kernel
set_option maxHeartbeats 4000000 in
set_option maxRecDepth 100000 in
/-- the reference: X3_key -/
theorem c_X3_key (G : gm_M) (u a : Int32) : KC lyM yX3_key wsX3_key ({ frames := 1, cells := 0, slots := 0, locals := 21 }) (fun ad => [.ref (ad 0 0), .int u, .int a]) G (fun _ => none) (tM ((wM G u ∨ a < 0 ∨ ¬ a ≤ 99) ∨ (¬ G 14 (uN u) 0 < 0)) (gm_up G 0 0 0 (cdF (wM G u ∨ a < 0 ∨ ¬ a ≤ 99) (¬ G 14 (uN u) 0 < 0))) (gm_up (gm_up G 0 0 0 0) 14 (uN u) 0 a)) := by
  refine KC.of_v (by decide) rfl rfl (fun _ => by simp) (fun _ => by simp [Value.category])  ?_
  intro X hC hR hX hE
  simp only [List.map_cons, List.map_nil, List.cons_append, List.nil_append, List.length_cons, List.length_nil, List.replicate, Nat.reduceAdd, Nat.reduceSub]
  refine go_aload_n hC dX3_key_0 rfl ?_
  refine go_joinI (jpc := 37) (cdF (wM G u ∨ a < 0 ∨ ¬ a ≤ 99) (¬ G 14 (uN u) 0 < 0)) ?_ (fun hj37 => ?_)
  ·
    refine go_puti (ci := 3) hC 0 kwX3_key_3 rfl tyX3 tyX3_ok nmX3 rfl (by decide) rfl lkX3_key_101 (by first | decide | (show _ < 5; omega) | (show _ < 10; omega) | omega) rfl rfl rfl dX3_key_37 ?_
    refine go_aload_n hC dX3_key_40 rfl ?_
    refine go_geti (ci := 3) hC 0 kwX3_key_3 rfl rfl (by decide) rfl lkX3_key_101 (by first | decide | (show _ < 5; omega) | (show _ < 10; omega) | omega) dX3_key_41 ?_
    refine go_if_ne hC 54 dX3_key_44 (by decide) (fun h44 => ?_) (fun h44 => ?_)
    ·
      rw [gm_us] at h44
      have hw := cdF_ne h44
      refine go_cast rfl ?_ (hE _ _ dX3_key_54)
      first | (rw [tM_t hw]; done) | (rw [tM_f (fun q => q.elim hn1 hn2), cdF_0 hn1 hn2])
    ·
      rw [gm_us] at h44
      obtain ⟨hn1, hn2⟩ := cdF_e h44
      obtain ⟨hue, hu5⟩ := bU_ix (fun q => hn1 (Or.inl (Or.inl q)))
      refine go_aload_n hC dX3_key_47 rfl ?_
      refine go_getr (ci := 3) hC 13 kwX3_key_3 rfl rfl (by decide) rfl lkX3_key_35 (by first | decide | (show _ < 5; omega) | (show _ < 10; omega) | omega) dX3_key_48 ?_
      refine go_iload_n hC dX3_key_51 rfl ?_
      refine go_iload_n hC dX3_key_52 rfl ?_
      refine go_iast hC rfl (by first | decide | (show _ < 5; omega) | (show _ < 10; omega) | omega) (gm_in hue (by omega) (by decide)) (gm_cl hue (by omega)) dX3_key_53 ?_
      refine go_cast rfl ?_ (hE _ _ dX3_key_54)
      first | (rw [tM_t hw]; done) | (rw [tM_f (fun q => q.elim hn1 hn2), cdF_0 hn1 hn2])
  ·
    refine go_aload_n hC dX3_key_1 rfl ?_
    refine go_iload_n hC dX3_key_2 rfl ?_
    refine go_callV (n := 1) (k0 := 0) (n0 := 0) hC hX (c_X3_isAway _ _) gX3_key_X3_isAway rfl (by decide +kernel) ⟨rfl, rfl⟩ (by rw [hR]; exact ⟨by decide, by decide⟩) (by rw [hR]; exact ⟨by decide, by decide⟩) rfl rfl rfl (by first | decide | (show _ < 5; omega) | (show _ < 10; omega) | omega) rfl rfl rfl (Nat.le_of_ble_eq_true rfl) dX3_key_3 ?_
    simp only [gm_r0, gm_r1]
    refine go_if_ne hC 19 dX3_key_6 (by decide) (fun h6 => ?_) (fun h6 => ?_)
    ·
      refine go_iconst (v := 1) hC dX3_key_19 (by decide) ?_
      refine go_goto hC 37 dX3_key_20 (by decide) ?_
      refine go_cast ?_ rfl hj37
      first | rw [cdF_1 (P := (wM G u ∨ a < 0 ∨ ¬ a ≤ 99)) (Or.inl (tF_ne h6))] | rw [cdF_1 (P := (wM G u ∨ a < 0 ∨ ¬ a ≤ 99)) (Or.inr (Or.inl h10))] | rw [cdF_1 (P := (wM G u ∨ a < 0 ∨ ¬ a ≤ 99)) (Or.inr (Or.inr h16))] | rw [cdF_2 (P := (wM G u ∨ a < 0 ∨ ¬ a ≤ 99)) (Q := (¬ G 14 (uN u) 0 < 0)) hnb h29] | rw [cdF_0 (P := (wM G u ∨ a < 0 ∨ ¬ a ≤ 99)) (Q := (¬ G 14 (uN u) 0 < 0)) hnb (fun q => q h29)]
    ·
      refine go_iload_n hC dX3_key_9 rfl ?_
      refine go_if_lt hC 19 dX3_key_10 (by decide) (fun h10 => ?_) (fun h10 => ?_)
      ·
        refine go_iconst (v := 1) hC dX3_key_19 (by decide) ?_
        refine go_goto hC 37 dX3_key_20 (by decide) ?_
        refine go_cast ?_ rfl hj37
        first | rw [cdF_1 (P := (wM G u ∨ a < 0 ∨ ¬ a ≤ 99)) (Or.inl (tF_ne h6))] | rw [cdF_1 (P := (wM G u ∨ a < 0 ∨ ¬ a ≤ 99)) (Or.inr (Or.inl h10))] | rw [cdF_1 (P := (wM G u ∨ a < 0 ∨ ¬ a ≤ 99)) (Or.inr (Or.inr h16))] | rw [cdF_2 (P := (wM G u ∨ a < 0 ∨ ¬ a ≤ 99)) (Q := (¬ G 14 (uN u) 0 < 0)) hnb h29] | rw [cdF_0 (P := (wM G u ∨ a < 0 ∨ ¬ a ≤ 99)) (Q := (¬ G 14 (uN u) 0 < 0)) hnb (fun q => q h29)]
      ·
        refine go_iload_n hC dX3_key_13 rfl ?_
        refine go_bipush (v := 99) hC dX3_key_14 (by decide) ?_
        refine go_icmp_le hC 23 dX3_key_16 (by decide) (fun h16 => ?_) (fun h16 => ?_)
        ·
          have hnb : ¬ (wM G u ∨ a < 0 ∨ ¬ a ≤ 99) := fun q => q.elim (tF_eq h6) (fun q => q.elim h10 (fun q => q h16))
          obtain ⟨hue, hu5⟩ := bU_ix (fun q => hnb (Or.inl (Or.inl q)))
          refine go_aload_n hC dX3_key_23 rfl ?_
          refine go_getr (ci := 3) hC 13 kwX3_key_3 rfl rfl (by decide) rfl lkX3_key_35 (by first | decide | (show _ < 5; omega) | (show _ < 10; omega) | omega) dX3_key_24 ?_
          refine go_iload_n hC dX3_key_27 rfl ?_
          refine go_iald hC rfl (by first | decide | (show _ < 5; omega) | (show _ < 10; omega) | omega) (gm_in hue (by omega) (by decide)) (gm_cl hue (by omega)) dX3_key_28 ?_
          refine go_if_lt hC 36 dX3_key_29 (by decide) (fun h29 => ?_) (fun h29 => ?_)
          ·
            refine go_iconst (v := 0) hC dX3_key_36 (by decide) ?_
            refine go_cast ?_ rfl hj37
            first | rw [cdF_1 (P := (wM G u ∨ a < 0 ∨ ¬ a ≤ 99)) (Or.inl (tF_ne h6))] | rw [cdF_1 (P := (wM G u ∨ a < 0 ∨ ¬ a ≤ 99)) (Or.inr (Or.inl h10))] | rw [cdF_1 (P := (wM G u ∨ a < 0 ∨ ¬ a ≤ 99)) (Or.inr (Or.inr h16))] | rw [cdF_2 (P := (wM G u ∨ a < 0 ∨ ¬ a ≤ 99)) (Q := (¬ G 14 (uN u) 0 < 0)) hnb h29] | rw [cdF_0 (P := (wM G u ∨ a < 0 ∨ ¬ a ≤ 99)) (Q := (¬ G 14 (uN u) 0 < 0)) hnb (fun q => q h29)]
          ·
            refine go_iconst (v := 2) hC dX3_key_32 (by decide) ?_
            refine go_goto hC 37 dX3_key_33 (by decide) ?_
            refine go_cast ?_ rfl hj37
            first | rw [cdF_1 (P := (wM G u ∨ a < 0 ∨ ¬ a ≤ 99)) (Or.inl (tF_ne h6))] | rw [cdF_1 (P := (wM G u ∨ a < 0 ∨ ¬ a ≤ 99)) (Or.inr (Or.inl h10))] | rw [cdF_1 (P := (wM G u ∨ a < 0 ∨ ¬ a ≤ 99)) (Or.inr (Or.inr h16))] | rw [cdF_2 (P := (wM G u ∨ a < 0 ∨ ¬ a ≤ 99)) (Q := (¬ G 14 (uN u) 0 < 0)) hnb h29] | rw [cdF_0 (P := (wM G u ∨ a < 0 ∨ ¬ a ≤ 99)) (Q := (¬ G 14 (uN u) 0 < 0)) hnb (fun q => q h29)]
        ·
          refine go_iconst (v := 1) hC dX3_key_19 (by decide) ?_
          refine go_goto hC 37 dX3_key_20 (by decide) ?_
          refine go_cast ?_ rfl hj37
          first | rw [cdF_1 (P := (wM G u ∨ a < 0 ∨ ¬ a ≤ 99)) (Or.inl (tF_ne h6))] | rw [cdF_1 (P := (wM G u ∨ a < 0 ∨ ¬ a ≤ 99)) (Or.inr (Or.inl h10))] | rw [cdF_1 (P := (wM G u ∨ a < 0 ∨ ¬ a ≤ 99)) (Or.inr (Or.inr h16))] | rw [cdF_2 (P := (wM G u ∨ a < 0 ∨ ¬ a ≤ 99)) (Q := (¬ G 14 (uN u) 0 < 0)) hnb h29] | rw [cdF_0 (P := (wM G u ∨ a < 0 ∨ ¬ a ≤ 99)) (Q := (¬ G 14 (uN u) 0 < 0)) hnb (fun q => q h29)]
