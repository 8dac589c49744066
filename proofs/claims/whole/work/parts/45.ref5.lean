/-! ===== the reference (5) ===== -/
theorem lqM_v (n : Nat) (G : gm_M) : ∀ j i, iter (lqM n) j G 28 i 0 = if 8 * n ≤ i ∧ i < 8 * n + j then G 28 (i + 1) 0 else G 28 i 0
  | 0, i => by rw [if_neg (by omega)]; rfl
  | j + 1, i => by
    rw [iter_s]
    simp only [lqM]
    by_cases h : i = 8 * n + j
    · subst h
      rw [gm_us, lqM_v n G j (8 * n + j + 1), if_neg (by omega), if_pos (by omega)]
    · rw [gm_un2 h, lqM_v n G j i]
      by_cases h2 : 8 * n ≤ i ∧ i < 8 * n + j
      · rw [if_pos h2, if_pos (by omega)]
      · rw [if_neg h2, if_neg (by omega)]
theorem leM_ne {G : gm_M} {n q k f m : Nat} (h1 : k ≠ 27) (h2 : k ≠ 28) : leM G n q k f m = G k f m := by
  unfold leM
  refine iter_inv (P := fun Z => Z k f m = G k f m) (fun j Z hZ => ?_) ?_ q
  · simp only [lqM]
    rw [gm_un1 h2]
    exact hZ
  · exact gm_un1 h1
theorem leM_q {G : gm_M} {n q : Nat} : leM G n q 27 n 0 = G 27 n 0 - 1 := lqM_q (by rw [gm_us]) q
theorem leM_qo {G : gm_M} {n q m : Nat} (h : m ≠ n) : leM G n q 27 m 0 = G 27 m 0 := lqM_q (by rw [gm_un2 h]) q
theorem leM_v {G : gm_M} {n q i : Nat} : leM G n q 28 i 0 = if 8 * n ≤ i ∧ i < 8 * n + q then G 28 (i + 1) 0 else G 28 i 0 := by
  unfold leM
  rw [lqM_v, gm_un1 (by decide), gm_un1 (by decide)]
abbrev brk (G : gm_M) (n d : Nat) : Prop := ¬ G 31 d 0 = 0 ∨ ¬ G 7 (n / 2) 0 = 0
noncomputable def s1M (G : gm_M) (n d : Nat) : gm_M := gm_up (gm_up G 30 d 0 (G 30 d 0 - 1)) 31 d 0 (tF (brk G n d))
def arM (G : gm_M) (a : Nat) (d : Int32) (n : Nat) : gm_M := gm_up (gm_up (gm_up (gm_up G 33 a 0 d) 34 a 0 (nI n)) 35 a 0 (G 0 11 0)) 0 31 0 (G 0 31 0 + 1)
noncomputable def sbkM (G : gm_M) (n q d a : Nat) : gm_M := tM (G 30 d 0 - 1 ≤ 0) (tM (brk G n d) (gm_up (leM (s1M G n d) n q) 0 35 0 (G 0 35 0 + 1)) (arM (leM (s1M G n d) n q) a (nI d) n)) (s1M G n d)
theorem nar_tF (P : Prop) : vp_nar .boolean (tF P) = tF P := by
  by_cases h : P
  · rw [tF_t h]; decide
  · rw [tF_f h]; decide
theorem kwX3_sendBlock_3 : ∀ w ∈ wsX30, w ∈ wsX3_sendBlock := by decide +kernel
theorem lkX3_sendBlock_25 : Cond.fieldLink RX3 25 "SharedFibreModel" "spoilt" "[Z" ∈ wsX3_sendBlock := by decide +kernel
theorem lkX3_sendBlock_77 : Cond.fieldLink RX3 77 "SharedFibreModel" "queue" "[I" ∈ wsX3_sendBlock := by decide +kernel
theorem lkX3_sendBlock_80 : Cond.fieldLink RX3 80 "SharedFibreModel" "left" "[I" ∈ wsX3_sendBlock := by decide +kernel
theorem lkX3_sendBlock_83 : Cond.fieldLink RX3 83 "SharedFibreModel" "broken" "[Z" ∈ wsX3_sendBlock := by decide +kernel
theorem lkX3_sendBlock_86 : Cond.fieldLink RX3 86 "SharedFibreModel" "cameNumber" "[I" ∈ wsX3_sendBlock := by decide +kernel
theorem lkX3_sendBlock_89 : Cond.fieldLink RX3 89 "SharedFibreModel" "cameFrom" "[I" ∈ wsX3_sendBlock := by decide +kernel
theorem lkX3_sendBlock_92 : Cond.fieldLink RX3 92 "SharedFibreModel" "cameFrame" "[I" ∈ wsX3_sendBlock := by decide +kernel
theorem lkX3_sendBlock_164 : Cond.fieldLink RX3 164 "SharedFibreModel" "lost" "I" ∈ wsX3_sendBlock := by decide +kernel
theorem lkX3_sendBlock_167 : Cond.fieldLink RX3 167 "SharedFibreModel" "many" "I" ∈ wsX3_sendBlock := by decide +kernel
theorem lkX3_sendBlock_170 : Cond.fieldLink RX3 170 "SharedFibreModel" "frames" "I" ∈ wsX3_sendBlock := by decide +kernel
set_option maxHeartbeats 4000000 in
set_option maxRecDepth 100000 in
/-- the reference: X3_sendBlock -/
theorem c_X3_sendBlock (G : gm_M) (n q d a : Nat) (hn : n < 10) (hq : G 27 n 0 = nI (q + 1)) (h8 : q < 8) (hd : G 28 (8 * n) 0 = nI d) (hd1 : d < 100) (ha : G 0 31 0 = nI a) (ha1 : a < 100) : KC lyM yX3_sendBlock wsX3_sendBlock ({ frames := 1, cells := 0, slots := 0, locals := 22 }) (fun ad => [.ref (ad 0 0), .int (nI n)]) G (fun _ => some (.int (tF (G 30 d 0 - 1 ≤ 0 ∧ ¬ brk G n d)))) (sbkM G n q d a) := by
  refine KC.of_z (by decide) rfl rfl (fun _ => by simp) (fun _ => by simp [Value.category]) (tF_n _) ?_
  intro X hC hR hX hE
  simp only [List.map_cons, List.map_nil, List.cons_append, List.nil_append, List.length_cons, List.length_nil, List.replicate, Nat.reduceAdd, Nat.reduceSub]
  refine go_aload_n hC dX3_sendBlock_0 rfl ?_
  refine go_getr (ci := 3) hC 27 kwX3_sendBlock_3 rfl rfl (by decide) rfl lkX3_sendBlock_77 (by first | decide | (show _ < 5; omega) | (show _ < 10; omega) | omega) dX3_sendBlock_1 ?_
  refine go_bipush (v := 8) hC dX3_sendBlock_4 (by decide) ?_
  refine go_iload_n hC dX3_sendBlock_6 rfl ?_
  refine go_imul hC dX3_sendBlock_7 ?_
  refine go_iald hC rfl (by first | decide | (show _ < 5; omega) | (show _ < 10; omega) | omega) (gm_in (n := 8 * n) (pk_mul 8 n) (by omega) (by decide)) (gm_cl (n := 8 * n) (pk_mul 8 n) (by omega)) dX3_sendBlock_8 ?_
  rw [hd]
  refine go_istore_n hC 2 dX3_sendBlock_9 rfl (Nat.le_of_ble_eq_true rfl) ?_
  simp only [gm_s0, gm_s1]
  refine go_aload_n hC dX3_sendBlock_10 rfl ?_
  refine go_getr (ci := 3) hC 29 kwX3_sendBlock_3 rfl rfl (by decide) rfl lkX3_sendBlock_80 (by first | decide | (show _ < 5; omega) | (show _ < 10; omega) | omega) dX3_sendBlock_11 ?_
  refine go_iload_n hC dX3_sendBlock_14 rfl ?_
  refine go_dup2 hC dX3_sendBlock_15 rfl rfl ?_
  refine go_iald hC rfl (by first | decide | (show _ < 5; omega) | (show _ < 10; omega) | omega) (gm_in rfl (by omega) (by decide)) (gm_cl rfl (by omega)) dX3_sendBlock_16 ?_
  refine go_iconst (v := 1) hC dX3_sendBlock_17 (by decide) ?_
  refine go_isub hC dX3_sendBlock_18 ?_
  refine go_iast hC rfl (by first | decide | (show _ < 5; omega) | (show _ < 10; omega) | omega) (gm_in rfl (by omega) (by decide)) (gm_cl rfl (by omega)) dX3_sendBlock_19 ?_
  refine go_aload_n hC dX3_sendBlock_20 rfl ?_
  refine go_getr (ci := 3) hC 30 kwX3_sendBlock_3 rfl rfl (by decide) rfl lkX3_sendBlock_83 (by first | decide | (show _ < 5; omega) | (show _ < 10; omega) | omega) dX3_sendBlock_21 ?_
  refine go_iload_n hC dX3_sendBlock_24 rfl ?_
  refine go_joinI (jpc := 50) (tF (brk G n d)) ?_ (fun hj50 => ?_)
  ·
    refine go_zast hC rfl (by first | decide | (show _ < 5; omega) | (show _ < 10; omega) | omega) (gm_in rfl (by omega) (by decide)) (gm_cl rfl (by omega)) dX3_sendBlock_50 ?_
    rw [nar_tF]
    show GO lyM X 0 0 51 _ _ (s1M G n d)
    refine go_aload_n hC dX3_sendBlock_51 rfl ?_
    refine go_getr (ci := 3) hC 29 kwX3_sendBlock_3 rfl rfl (by decide) rfl lkX3_sendBlock_80 (by first | decide | (show _ < 5; omega) | (show _ < 10; omega) | omega) dX3_sendBlock_52 ?_
    refine go_iload_n hC dX3_sendBlock_55 rfl ?_
    refine go_iald hC rfl (by first | decide | (show _ < 5; omega) | (show _ < 10; omega) | omega) (gm_in rfl (by omega) (by decide)) (gm_cl rfl (by omega)) dX3_sendBlock_56 ?_
    refine go_if_le hC 62 dX3_sendBlock_57 (by decide) (fun h57 => ?_) (fun h57 => ?_)
    ·
      rw [s1M, gm_un1 (by decide), gm_us] at h57
      refine go_aload_n hC dX3_sendBlock_62 rfl ?_
      refine go_iload_n hC dX3_sendBlock_63 rfl ?_
      refine go_callV (n := 1) (k0 := 0) (n0 := 0) hC hX (c_X3_leave _ n q hn (by rw [s1M, gm_un1 (by decide), gm_un1 (by decide)]; exact hq) h8) gX3_sendBlock_X3_leave rfl (by decide +kernel) ⟨rfl, rfl⟩ (by rw [hR]; exact ⟨by decide, by decide⟩) (by rw [hR]; exact ⟨by decide, by decide⟩) rfl rfl rfl (by first | decide | (show _ < 5; omega) | (show _ < 10; omega) | omega) rfl rfl rfl (Nat.le_of_ble_eq_true rfl) dX3_sendBlock_64 ?_
      simp only [gm_r0, gm_r1]
      refine go_aload_n hC dX3_sendBlock_67 rfl ?_
      refine go_getr (ci := 3) hC 30 kwX3_sendBlock_3 rfl rfl (by decide) rfl lkX3_sendBlock_83 (by first | decide | (show _ < 5; omega) | (show _ < 10; omega) | omega) dX3_sendBlock_68 ?_
      refine go_iload_n hC dX3_sendBlock_71 rfl ?_
      refine go_zald hC rfl (by first | decide | (show _ < 5; omega) | (show _ < 10; omega) | omega) (gm_in rfl (by omega) (by decide)) (gm_cl rfl (by omega)) dX3_sendBlock_72 ?_
      refine go_if_eq hC 88 dX3_sendBlock_73 (by decide) (fun h73 => ?_) (fun h73 => ?_)
      ·
        rw [leM_ne (by decide) (by decide), s1M, gm_us] at h73
        have hmm : leM (s1M G n d) n q 0 31 0 = nI a := by rw [leM_ne (by decide) (by decide), s1M, gm_un1 (by decide), gm_un1 (by decide)]; exact ha
        have hm97 := hmm
        have hm107 : gm_up (leM (s1M G n d) n q) 33 a 0 (nI d) 0 31 0 = nI a := by rw [gm_un1 (by decide)]; exact hmm
        have hm120 : gm_up (gm_up (leM (s1M G n d) n q) 33 a 0 (nI d)) 34 a 0 (nI n) 0 31 0 = nI a := by rw [gm_un1 (by decide), gm_un1 (by decide)]; exact hmm
        refine go_aload_n hC dX3_sendBlock_88 rfl ?_
        refine go_getr (ci := 3) hC 32 kwX3_sendBlock_3 rfl rfl (by decide) rfl lkX3_sendBlock_86 (by first | decide | (show _ < 5; omega) | (show _ < 10; omega) | omega) dX3_sendBlock_89 ?_
        refine go_aload_n hC dX3_sendBlock_92 rfl ?_
        refine go_geti (ci := 3) hC 31 kwX3_sendBlock_3 rfl rfl (by decide) rfl lkX3_sendBlock_167 (by first | decide | (show _ < 5; omega) | (show _ < 10; omega) | omega) dX3_sendBlock_93 ?_
        refine go_iload_n hC dX3_sendBlock_96 rfl ?_
        refine go_iast hC rfl (by first | decide | (show _ < 5; omega) | (show _ < 10; omega) | omega) (gm_in (n := a) hm97 (by omega) (by decide)) (gm_cl (n := a) hm97 (by omega)) dX3_sendBlock_97 ?_
        refine go_aload_n hC dX3_sendBlock_98 rfl ?_
        refine go_getr (ci := 3) hC 33 kwX3_sendBlock_3 rfl rfl (by decide) rfl lkX3_sendBlock_89 (by first | decide | (show _ < 5; omega) | (show _ < 10; omega) | omega) dX3_sendBlock_99 ?_
        refine go_aload_n hC dX3_sendBlock_102 rfl ?_
        refine go_geti (ci := 3) hC 31 kwX3_sendBlock_3 rfl rfl (by decide) rfl lkX3_sendBlock_167 (by first | decide | (show _ < 5; omega) | (show _ < 10; omega) | omega) dX3_sendBlock_103 ?_
        refine go_iload_n hC dX3_sendBlock_106 rfl ?_
        refine go_iast hC rfl (by first | decide | (show _ < 5; omega) | (show _ < 10; omega) | omega) (gm_in (n := a) hm107 (by omega) (by decide)) (gm_cl (n := a) hm107 (by omega)) dX3_sendBlock_107 ?_
        refine go_aload_n hC dX3_sendBlock_108 rfl ?_
        refine go_getr (ci := 3) hC 34 kwX3_sendBlock_3 rfl rfl (by decide) rfl lkX3_sendBlock_92 (by first | decide | (show _ < 5; omega) | (show _ < 10; omega) | omega) dX3_sendBlock_109 ?_
        refine go_aload_n hC dX3_sendBlock_112 rfl ?_
        refine go_geti (ci := 3) hC 31 kwX3_sendBlock_3 rfl rfl (by decide) rfl lkX3_sendBlock_167 (by first | decide | (show _ < 5; omega) | (show _ < 10; omega) | omega) dX3_sendBlock_113 ?_
        refine go_aload_n hC dX3_sendBlock_116 rfl ?_
        refine go_geti (ci := 3) hC 11 kwX3_sendBlock_3 rfl rfl (by decide) rfl lkX3_sendBlock_170 (by first | decide | (show _ < 5; omega) | (show _ < 10; omega) | omega) dX3_sendBlock_117 ?_
        refine go_iast hC rfl (by first | decide | (show _ < 5; omega) | (show _ < 10; omega) | omega) (gm_in (n := a) hm120 (by omega) (by decide)) (gm_cl (n := a) hm120 (by omega)) dX3_sendBlock_120 ?_
        refine go_aload_n hC dX3_sendBlock_121 rfl ?_
        refine go_dup hC dX3_sendBlock_122 rfl ?_
        refine go_geti (ci := 3) hC 31 kwX3_sendBlock_3 rfl rfl (by decide) rfl lkX3_sendBlock_167 (by first | decide | (show _ < 5; omega) | (show _ < 10; omega) | omega) dX3_sendBlock_123 ?_
        refine go_iconst (v := 1) hC dX3_sendBlock_126 (by decide) ?_
        refine go_iadd hC dX3_sendBlock_127 ?_
        refine go_puti (ci := 3) hC 31 kwX3_sendBlock_3 rfl tyX3 tyX3_ok nmX3 rfl (by decide) rfl lkX3_sendBlock_167 (by first | decide | (show _ < 5; omega) | (show _ < 10; omega) | omega) rfl rfl rfl dX3_sendBlock_128 ?_
        refine go_iconst (v := 1) hC dX3_sendBlock_131 (by decide) ?_
        refine go_cast ?_ ?_ (hE _ _ dX3_sendBlock_132)
        · rw [tF_t (P := G 30 d 0 - 1 ≤ 0 ∧ ¬ brk G n d) ⟨h57, tF_eq h73⟩]
        · rw [sbkM, tM_t h57, tM_f (tF_eq h73), arM]
          simp only [gm_un1 (show (0 : Nat) ≠ 33 by decide), gm_un1 (show (0 : Nat) ≠ 34 by decide), gm_un1 (show (0 : Nat) ≠ 35 by decide)]
      ·
        rw [leM_ne (by decide) (by decide), s1M, gm_us] at h73
        refine go_aload_n hC dX3_sendBlock_76 rfl ?_
        refine go_dup hC dX3_sendBlock_77 rfl ?_
        refine go_geti (ci := 3) hC 35 kwX3_sendBlock_3 rfl rfl (by decide) rfl lkX3_sendBlock_164 (by first | decide | (show _ < 5; omega) | (show _ < 10; omega) | omega) dX3_sendBlock_78 ?_
        refine go_iconst (v := 1) hC dX3_sendBlock_81 (by decide) ?_
        refine go_iadd hC dX3_sendBlock_82 ?_
        refine go_puti (ci := 3) hC 35 kwX3_sendBlock_3 rfl tyX3 tyX3_ok nmX3 rfl (by decide) rfl lkX3_sendBlock_164 (by first | decide | (show _ < 5; omega) | (show _ < 10; omega) | omega) rfl rfl rfl dX3_sendBlock_83 ?_
        refine go_iconst (v := 0) hC dX3_sendBlock_86 (by decide) ?_
        refine go_cast ?_ ?_ (hE _ _ dX3_sendBlock_87)
        · rw [tF_f (P := G 30 d 0 - 1 ≤ 0 ∧ ¬ brk G n d) (fun q => q.2 (tF_ne h73))]
        · rw [sbkM, tM_t h57, tM_t (tF_ne h73), leM_ne (by decide) (by decide), s1M, gm_un1 (by decide), gm_un1 (by decide)]
    ·
      rw [s1M, gm_un1 (by decide), gm_us] at h57
      refine go_iconst (v := 0) hC dX3_sendBlock_60 (by decide) ?_
      refine go_cast ?_ ?_ (hE _ _ dX3_sendBlock_61)
      · rw [tF_f (P := G 30 d 0 - 1 ≤ 0 ∧ ¬ brk G n d) (fun q => h57 q.1)]
      · rw [sbkM, tM_f h57]
  ·
    refine go_aload_n hC dX3_sendBlock_25 rfl ?_
    refine go_getr (ci := 3) hC 30 kwX3_sendBlock_3 rfl rfl (by decide) rfl lkX3_sendBlock_83 (by first | decide | (show _ < 5; omega) | (show _ < 10; omega) | omega) dX3_sendBlock_26 ?_
    refine go_iload_n hC dX3_sendBlock_29 rfl ?_
    refine go_zald hC rfl (by first | decide | (show _ < 5; omega) | (show _ < 10; omega) | omega) (gm_in rfl (by omega) (by decide)) (gm_cl rfl (by omega)) dX3_sendBlock_30 ?_
    refine go_if_ne hC 45 dX3_sendBlock_31 (by decide) (fun h31 => ?_) (fun h31 => ?_)
    ·
      rw [gm_un1 (by decide)] at h31
      refine go_iconst (v := 1) hC dX3_sendBlock_45 (by decide) ?_
      refine go_goto hC 50 dX3_sendBlock_46 (by decide) ?_
      refine go_cast ?_ rfl hj50
      first | rw [tF_t (P := brk G n d) (Or.inl h31)] | rw [tF_f (P := brk G n d) (fun q => q.elim (fun q => q h31) (fun q => q h42))] | rw [tF_t (P := brk G n d) (Or.inr h42)]
    ·
      rw [gm_un1 (by decide)] at h31
      refine go_aload_n hC dX3_sendBlock_34 rfl ?_
      refine go_getr (ci := 3) hC 6 kwX3_sendBlock_3 rfl rfl (by decide) rfl lkX3_sendBlock_25 (by first | decide | (show _ < 5; omega) | (show _ < 10; omega) | omega) dX3_sendBlock_35 ?_
      refine go_iload_n hC dX3_sendBlock_38 rfl ?_
      refine go_iconst (v := 2) hC dX3_sendBlock_39 (by decide) ?_
      refine go_idiv hC dX3_sendBlock_40 (by decide) ?_
      refine go_zald hC rfl (by first | decide | (show _ < 5; omega) | (show _ < 10; omega) | omega) (gm_in (half n (by omega)) (by omega) (by decide)) (gm_cl (half n (by omega)) (by omega)) dX3_sendBlock_41 ?_
      refine go_if_eq hC 49 dX3_sendBlock_42 (by decide) (fun h42 => ?_) (fun h42 => ?_)
      ·
        rw [gm_un1 (by decide)] at h42
        refine go_iconst (v := 0) hC dX3_sendBlock_49 (by decide) ?_
        refine go_cast ?_ rfl hj50
        first | rw [tF_t (P := brk G n d) (Or.inl h31)] | rw [tF_f (P := brk G n d) (fun q => q.elim (fun q => q h31) (fun q => q h42))] | rw [tF_t (P := brk G n d) (Or.inr h42)]
      ·
        rw [gm_un1 (by decide)] at h42
        refine go_iconst (v := 1) hC dX3_sendBlock_45 (by decide) ?_
        refine go_goto hC 50 dX3_sendBlock_46 (by decide) ?_
        refine go_cast ?_ rfl hj50
        first | rw [tF_t (P := brk G n d) (Or.inl h31)] | rw [tF_f (P := brk G n d) (fun q => q.elim (fun q => q h31) (fun q => q h42))] | rw [tF_t (P := brk G n d) (Or.inr h42)]
theorem i_tele (s x y : Int32) : (x - s) + (y - x) = y - s := by
  rw [Int32.sub_eq_add_neg, Int32.sub_eq_add_neg, Int32.sub_eq_add_neg, Int32.add_comm (x + -s), Int32.add_assoc y, ← Int32.add_assoc (-x), Int32.add_left_neg, Int32.zero_add]
theorem i_inc (s x t : Int32) : (x - s) + t = (x + t) - s := by
  rw [Int32.sub_eq_add_neg, Int32.sub_eq_add_neg, Int32.add_assoc, Int32.add_comm (-s), ← Int32.add_assoc]
theorem i_self (x : Int32) : x - x = 0 := Int32.sub_self x
noncomputable def sbF (n : Nat) (G : gm_M) : gm_M := sbkM G n (uN (G 27 n 0) - 1) (uN (G 28 (8 * n) 0)) (uN (G 0 31 0))
noncomputable def trL (n : Nat) : Nat → gm_M → gm_M
  | 0, G => G
  | d + 1, G => @ite _ (G 27 n 0 ≤ 0) (Classical.propDecidable _) G (trL n d (sbF n G))
theorem trL_t {n d : Nat} {G : gm_M} (h : G 27 n 0 ≤ 0) : trL n (d + 1) G = G := if_pos h
theorem trL_f {n d : Nat} {G : gm_M} (h : ¬ G 27 n 0 ≤ 0) : trL n (d + 1) G = trL n d (sbF n G) := if_neg h
/-- what sending from a container needs -/
def QB (n : Nat) (G : gm_M) (t : Nat) : Prop := ∃ q a : Nat, G 27 n 0 = nI q ∧ q ≤ 8 ∧ G 0 31 0 = nI a ∧ a + q ≤ t ∧ ∀ k, k < q → G 28 (8 * n + k) 0 = nI (uN (G 28 (8 * n + k) 0)) ∧ uN (G 28 (8 * n + k) 0) < 100
def JV (n g : Nat) (G : gm_M) : Prop := G 25 n 0 = nI g ∧ QB n G 100
theorem sbkM_ne {G : gm_M} {n q d a k f m : Nat} (h1 : k ≠ 27) (h2 : k ≠ 28) (h3 : k ≠ 30) (h4 : k ≠ 31) (h5 : k ≠ 33) (h6 : k ≠ 34) (h7 : k ≠ 35) (h8 : ¬ (k = 0 ∧ (f = 31 ∨ f = 35))) : sbkM G n q d a k f m = G k f m := by
  have e1 : s1M G n d k f m = G k f m := by rw [s1M, gm_un1 h4, gm_un1 h3]
  have e2 : leM (s1M G n d) n q k f m = G k f m := by rw [leM_ne h1 h2]; exact e1
  unfold sbkM
  by_cases p1 : G 30 d 0 - 1 ≤ 0
  · rw [tM_t p1]
    by_cases p2 : brk G n d
    · rw [tM_t p2]
      exact (if_neg (fun q => h8 ⟨q.1, Or.inr q.2.1⟩)).trans e2
    · rw [tM_f p2, arM]
      refine (if_neg (fun q => h8 ⟨q.1, Or.inl q.2.1⟩)).trans ?_
      rw [gm_un1 h7, gm_un1 h6, gm_un1 h5]
      exact e2
  · rw [tM_f p1]
    exact e1
theorem sbkM_many {G : gm_M} {n q d a : Nat} : sbkM G n q d a 0 31 0 = G 0 31 0 + tF (G 30 d 0 - 1 ≤ 0 ∧ ¬ brk G n d) := by
  have e1 : s1M G n d 0 31 0 = G 0 31 0 := by rw [s1M, gm_un1 (by decide), gm_un1 (by decide)]
  have e2 : leM (s1M G n d) n q 0 31 0 = G 0 31 0 := by rw [leM_ne (by decide) (by decide)]; exact e1
  unfold sbkM
  by_cases p1 : G 30 d 0 - 1 ≤ 0
  · rw [tM_t p1]
    by_cases p2 : brk G n d
    · rw [tM_t p2, tF_f (fun q => q.2 p2), gm_un2 (by decide), Int32.add_zero]
      exact e2
    · rw [tM_f p2, tF_t ⟨p1, p2⟩, arM, gm_us, e2]
  · rw [tM_f p1, tF_f (fun q => p1 q.1), Int32.add_zero]
    exact e1
theorem sbkM_o {G : gm_M} {n q d a m : Nat} (h : m ≠ n) : sbkM G n q d a 27 m 0 = G 27 m 0 := by
  have e1 : s1M G n d 27 m 0 = G 27 m 0 := by rw [s1M, gm_un1 (by decide), gm_un1 (by decide)]
  have e2 : leM (s1M G n d) n q 27 m 0 = G 27 m 0 := by rw [leM_qo h]; exact e1
  unfold sbkM
  by_cases p1 : G 30 d 0 - 1 ≤ 0
  · rw [tM_t p1]
    by_cases p2 : brk G n d
    · rw [tM_t p2, gm_un1 (by decide)]
      exact e2
    · rw [tM_f p2, arM, gm_un1 (by decide), gm_un1 (by decide), gm_un1 (by decide), gm_un1 (by decide)]
      exact e2
  · rw [tM_f p1]
    exact e1
theorem sbkM_28 {G : gm_M} {n q d a i : Nat} : sbkM G n q d a 28 i 0 = G 28 i 0 ∨ (8 * n ≤ i ∧ i < 8 * n + q ∧ sbkM G n q d a 28 i 0 = G 28 (i + 1) 0 ∧ sbkM G n q d a 27 n 0 = G 27 n 0 - 1) ∨ (¬ (8 * n ≤ i ∧ i < 8 * n + q) ∧ sbkM G n q d a 28 i 0 = G 28 i 0) := by
  by_cases p1 : G 30 d 0 - 1 ≤ 0
  · have e28 : ∀ j, s1M G n d 28 j 0 = G 28 j 0 := fun j => by rw [s1M, gm_un1 (by decide), gm_un1 (by decide)]
    have e27 : s1M G n d 27 n 0 = G 27 n 0 := by rw [s1M, gm_un1 (by decide), gm_un1 (by decide)]
    have b27 : sbkM G n q d a 27 n 0 = G 27 n 0 - 1 := by
      unfold sbkM
      rw [tM_t p1]
      by_cases p2 : brk G n d
      · rw [tM_t p2, gm_un1 (by decide), leM_q, e27]
      · rw [tM_f p2, arM, gm_un1 (by decide), gm_un1 (by decide), gm_un1 (by decide), gm_un1 (by decide), leM_q, e27]
    have b28 : sbkM G n q d a 28 i 0 = leM (s1M G n d) n q 28 i 0 := by
      unfold sbkM
      rw [tM_t p1]
      by_cases p2 : brk G n d
      · rw [tM_t p2, gm_un1 (by decide)]
      · rw [tM_f p2, arM, gm_un1 (by decide), gm_un1 (by decide), gm_un1 (by decide), gm_un1 (by decide)]
    by_cases hi : 8 * n ≤ i ∧ i < 8 * n + q
    · exact Or.inr (Or.inl ⟨hi.1, hi.2, by rw [b28, leM_v, if_pos hi, e28], b27⟩)
    · exact Or.inl (by rw [b28, leM_v, if_neg hi, e28])
  · left
    unfold sbkM
    rw [tM_f p1, s1M, gm_un1 (by decide), gm_un1 (by decide)]
theorem sbkM_27 {G : gm_M} {n q d a : Nat} : (sbkM G n q d a 27 n 0 = G 27 n 0 - 1 ∧ G 30 d 0 - 1 ≤ 0 ∧ ∀ i, sbkM G n q d a 28 i 0 = if 8 * n ≤ i ∧ i < 8 * n + q then G 28 (i + 1) 0 else G 28 i 0) ∨ (sbkM G n q d a 27 n 0 = G 27 n 0 ∧ ¬ G 30 d 0 - 1 ≤ 0 ∧ ∀ i, sbkM G n q d a 28 i 0 = G 28 i 0) := by
  have e28 : ∀ j, s1M G n d 28 j 0 = G 28 j 0 := fun j => by rw [s1M, gm_un1 (by decide), gm_un1 (by decide)]
  have e27 : s1M G n d 27 n 0 = G 27 n 0 := by rw [s1M, gm_un1 (by decide), gm_un1 (by decide)]
  by_cases p1 : G 30 d 0 - 1 ≤ 0
  · left
    unfold sbkM
    rw [tM_t p1]
    by_cases p2 : brk G n d
    · rw [tM_t p2]
      exact ⟨by rw [gm_un1 (by decide), leM_q, e27], p1, fun i => by rw [gm_un1 (by decide), leM_v, e28, e28]⟩
    · rw [tM_f p2, arM]
      exact ⟨by rw [gm_un1 (by decide), gm_un1 (by decide), gm_un1 (by decide), gm_un1 (by decide), leM_q, e27], p1, fun i => by rw [gm_un1 (by decide), gm_un1 (by decide), gm_un1 (by decide), gm_un1 (by decide), leM_v, e28, e28]⟩
  · right
    unfold sbkM
    rw [tM_f p1]
    exact ⟨e27, p1, e28⟩
theorem sbF_eq {n q d a : Nat} {G : gm_M} (hq : G 27 n 0 = nI (q + 1)) (h8 : q < 8) (hd : G 28 (8 * n) 0 = nI d) (hd1 : d < 100) (ha : G 0 31 0 = nI a) (ha1 : a ≤ 100) : sbF n G = sbkM G n q d a := by
  unfold sbF
  rw [hq, hd, ha, show uN (nI (q + 1)) = q + 1 from nI_clamp (by omega), show uN (nI d) = d from nI_clamp (by omega), show uN (nI a) = a from nI_clamp (by omega)]
  rfl
theorem sbF_qb {n t : Nat} {G : gm_M} (ht : t ≤ 100) (h : QB n G t) (h0 : ¬ G 27 n 0 ≤ 0) : QB n (sbF n G) t := by
  obtain ⟨q, a, hq, hq8, ha, haq, hd⟩ := h
  obtain ⟨q, rfl⟩ : ∃ q', q = q' + 1 := ⟨q - 1, by have : q ≠ 0 := fun e => h0 (by rw [hq, e]; decide); omega⟩
  have hd0 := hd 0 (by omega)
  rw [Nat.add_zero] at hd0
  rw [sbF_eq hq (by omega) hd0.1 hd0.2 ha (by omega)]
  have hm : ∀ P : Prop, nI a + tF P = nI a ∨ nI a + tF P = nI (a + 1) := fun P => by
    by_cases p : P
    · rw [tF_t p]; exact Or.inr (nI_1 a)
    · rw [tF_f p]; exact Or.inl (Int32.add_zero _)
  rcases sbkM_27 (G := G) (n := n) (q := q) (d := uN (G 28 (8 * n) 0)) (a := a) with ⟨e1, e2, e3⟩ | ⟨e1, e2, e3⟩
  · have e4 : ∀ k, k < q → sbkM G n q (uN (G 28 (8 * n) 0)) a 28 (8 * n + k) 0 = G 28 (8 * n + (k + 1)) 0 := fun k hk => by rw [e3, if_pos (by omega)]; rfl
    have e5 : ∀ k, k < q → sbkM G n q (uN (G 28 (8 * n) 0)) a 28 (8 * n + k) 0 = nI (uN (sbkM G n q (uN (G 28 (8 * n) 0)) a 28 (8 * n + k) 0)) ∧ uN (sbkM G n q (uN (G 28 (8 * n) 0)) a 28 (8 * n + k) 0) < 100 := fun k hk => by rw [e4 k hk]; exact hd (k + 1) (by omega)
    rcases hm (G 30 (uN (G 28 (8 * n) 0)) 0 - 1 ≤ 0 ∧ ¬ brk G n (uN (G 28 (8 * n) 0))) with e | e
    · exact ⟨q, a, by rw [e1, hq]; exact nI_pred q, by omega, by rw [sbkM_many, ha]; exact e, by omega, e5⟩
    · exact ⟨q, a + 1, by rw [e1, hq]; exact nI_pred q, by omega, by rw [sbkM_many, ha]; exact e, by omega, e5⟩
  · refine ⟨q + 1, a, by rw [e1]; exact hq, hq8, ?_, haq, fun k hk => by rw [e3]; exact hd k hk⟩
    rw [sbkM_many, tF_f (fun z => e2 z.1), Int32.add_zero]
    exact ha
theorem trL_qb {n t : Nat} (ht : t ≤ 100) : ∀ (d : Nat) (G : gm_M), QB n G t → QB n (trL n d G) t
  | 0, G, h => h
  | d + 1, G, h => by
    by_cases h0 : G 27 n 0 ≤ 0
    · rw [trL_t h0]; exact h
    · rw [trL_f h0]; exact trL_qb ht d _ (sbF_qb ht h h0)
theorem sbF_ne {n k f m : Nat} {G : gm_M} (h1 : k ≠ 27) (h2 : k ≠ 28) (h3 : k ≠ 30) (h4 : k ≠ 31) (h5 : k ≠ 33) (h6 : k ≠ 34) (h7 : k ≠ 35) (h8 : ¬ (k = 0 ∧ (f = 31 ∨ f = 35))) : sbF n G k f m = G k f m := sbkM_ne h1 h2 h3 h4 h5 h6 h7 h8
theorem trL_ne {n k f m : Nat} (h1 : k ≠ 27) (h2 : k ≠ 28) (h3 : k ≠ 30) (h4 : k ≠ 31) (h5 : k ≠ 33) (h6 : k ≠ 34) (h7 : k ≠ 35) (h8 : ¬ (k = 0 ∧ (f = 31 ∨ f = 35))) : ∀ (d : Nat) (G : gm_M), trL n d G k f m = G k f m
  | 0, G => rfl
  | d + 1, G => by
    by_cases h0 : G 27 n 0 ≤ 0
    · rw [trL_t h0]
    · rw [trL_f h0, trL_ne h1 h2 h3 h4 h5 h6 h7 h8 d, sbF_ne h1 h2 h3 h4 h5 h6 h7 h8]
noncomputable def loM (G : gm_M) (n : Nat) : Int32 := bx_sum (fun k => G 30 (uN (G 28 (8 * n + k) 0)) 0) (uN (G 27 n 0))
noncomputable def trA (n : Nat) (G : gm_M) : gm_M := trL n (uN (G 25 n 0)) G
noncomputable def trM (n : Nat) (G : gm_M) : gm_M := if G 7 (n / 2) 0 = 0 then gm_up (trA n G) 24 n 0 (loM (trA n G) n) else trA n G
theorem trM_many (n : Nat) (G : gm_M) : trM n G 0 31 0 = trA n G 0 31 0 := by
  unfold trM
  split
  · exact gm_un1 (by decide)
  · rfl
theorem kwX3_transport_3 : ∀ w ∈ wsX30, w ∈ wsX3_transport := by decide +kernel
theorem lkX3_transport_25 : Cond.fieldLink RX3 25 "SharedFibreModel" "spoilt" "[Z" ∈ wsX3_transport := by decide +kernel
theorem lkX3_transport_65 : Cond.fieldLink RX3 65 "SharedFibreModel" "reported" "[I" ∈ wsX3_transport := by decide +kernel
theorem lkX3_transport_68 : Cond.fieldLink RX3 68 "SharedFibreModel" "given" "[I" ∈ wsX3_transport := by decide +kernel
theorem lkX3_transport_74 : Cond.fieldLink RX3 74 "SharedFibreModel" "queued" "[I" ∈ wsX3_transport := by decide +kernel
set_option maxHeartbeats 4000000 in
set_option maxRecDepth 100000 in
/-- the reference: X3_transport -/
theorem c_X3_transport (G : gm_M) (n g : Nat) (hn : n < 10) (hg31 : g < 2 ^ 31) (hJV : JV n g G) : KC lyM yX3_transport wsX3_transport ({ frames := 2, cells := 0, slots := 0, locals := 44 }) (fun ad => [.ref (ad 0 0), .int (nI n)]) G (fun _ => some (.int (trM n G 0 31 0 - G 0 31 0))) (trM n G) := by
  refine KC.of_i (by decide) rfl rfl (fun _ => by simp) (fun _ => by simp [Value.category])  ?_
  intro X hC hR hX hE
  simp only [List.map_cons, List.map_nil, List.cons_append, List.nil_append, List.length_cons, List.length_nil, List.replicate, Nat.reduceAdd, Nat.reduceSub]
  have hQ : trL n g G 27 n 0 = nI (uN (trL n g G 27 n 0)) ∧ uN (trL n g G 27 n 0) ≤ 8 ∧ ∀ k, k < uN (trL n g G 27 n 0) → trL n g G 28 (8 * n + k) 0 = nI (uN (trL n g G 28 (8 * n + k) 0)) ∧ uN (trL n g G 28 (8 * n + k) 0) < 100 := by
    obtain ⟨q, a, hq, hq8, ha, haq, hdd⟩ := trL_qb (Nat.le_refl 100) g G hJV.2
    rw [hq, show uN (nI q) = q from nI_clamp (by omega)]
    exact ⟨rfl, hq8, hdd⟩
  have hgg : uN (G 25 n 0) = g := by rw [hJV.1]; exact nI_clamp hg31
  have htA : trA n G = trL n g G := by rw [trA, hgg]
  have hsp : trL n g G 7 (n / 2) 0 = G 7 (n / 2) 0 := trL_ne (by decide) (by decide) (by decide) (by decide) (by decide) (by decide) (by decide) (by simp) g G
  have h45 : GO lyM X 0 0 45 [some (.ref (gm_ad X 0 0)), some (.int (nI n)), some (.int (trL n g G 0 31 0 - G 0 31 0)), none] [] (trL n g G) := by
    refine go_aload_n hC dX3_transport_45 rfl ?_
    refine go_getr (ci := 3) hC 6 kwX3_transport_3 rfl rfl (by decide) rfl lkX3_transport_25 (by first | decide | (show _ < 5; omega) | (show _ < 10; omega) | omega) dX3_transport_46 ?_
    refine go_iload_n hC dX3_transport_49 rfl ?_
    refine go_iconst (v := 2) hC dX3_transport_50 (by decide) ?_
    refine go_idiv hC dX3_transport_51 (by decide) ?_
    refine go_zald hC rfl (by first | decide | (show _ < 5; omega) | (show _ < 10; omega) | omega) (gm_in (half n (by omega)) (by omega) (by decide)) (gm_cl (half n (by omega)) (by omega)) dX3_transport_52 ?_
    refine go_if_ne hC 67 dX3_transport_53 (by decide) (fun h53 => ?_) (fun h53 => ?_)
    ·
      refine go_iload_n hC dX3_transport_67 rfl ?_
      refine go_cast ?_ ?_ (hE _ _ dX3_transport_68)
      · rw [trM_many, htA]
      · first | (rw [trM, if_neg (by rw [← hsp]; exact h53), htA]; done) | (rw [trM, if_pos (by rw [← hsp]; exact h53), htA]; rfl)
    ·
      refine go_aload_n hC dX3_transport_56 rfl ?_
      refine go_getr (ci := 3) hC 23 kwX3_transport_3 rfl rfl (by decide) rfl lkX3_transport_65 (by first | decide | (show _ < 5; omega) | (show _ < 10; omega) | omega) dX3_transport_57 ?_
      refine go_iload_n hC dX3_transport_60 rfl ?_
      refine go_aload_n hC dX3_transport_61 rfl ?_
      refine go_iload_n hC dX3_transport_62 rfl ?_
      refine go_callV (n := 1) (k0 := 0) (n0 := 0) hC hX (c_X3_loadOf _ n _ hn hQ.1 hQ.2.1 hQ.2.2) gX3_transport_X3_loadOf rfl (by decide +kernel) ⟨rfl, rfl⟩ (by rw [hR]; exact ⟨by decide, by decide⟩) (by rw [hR]; exact ⟨by decide, by decide⟩) rfl rfl rfl (by first | decide | (show _ < 5; omega) | (show _ < 10; omega) | omega) rfl rfl rfl (Nat.le_of_ble_eq_true rfl) dX3_transport_63 ?_
      simp only [gm_r0, gm_r1]
      refine go_iast hC rfl (by first | decide | (show _ < 5; omega) | (show _ < 10; omega) | omega) (gm_in rfl (by omega) (by decide)) (gm_cl rfl (by omega)) dX3_transport_66 ?_
      refine go_iload_n hC dX3_transport_67 rfl ?_
      refine go_cast ?_ ?_ (hE _ _ dX3_transport_68)
      · rw [trM_many, htA]
      · first | (rw [trM, if_neg (by rw [← hsp]; exact h53), htA]; done) | (rw [trM, if_pos (by rw [← hsp]; exact h53), htA]; rfl)
  have lp4 : (fun j : Nat => ∀ G2 : gm_M, JV n g G2 → trL n (g - j) G2 = trL n g G → GO lyM X 0 0 4 [some (.ref (gm_ad X 0 0)), some (.int (nI n)), some (.int (G2 0 31 0 - G 0 31 0)), some (.int (nI j))] [] G2) 0 := by
    refine loopN (g) (fun j : Nat => ∀ G2 : gm_M, JV n g G2 → trL n (g - j) G2 = trL n g G → GO lyM X 0 0 4 [some (.ref (gm_ad X 0 0)), some (.int (nI n)), some (.int (G2 0 31 0 - G 0 31 0)), some (.int (nI j))] [] G2) ?_ (fun j hj ih => ?_)
    · try dsimp only
      intro G2 hI hl
      have hfin : trL n (g - g) G2 = G2 := by rw [Nat.sub_self]; rfl
      refine go_iload_n hC dX3_transport_4 rfl ?_
      refine go_aload_n hC dX3_transport_5 rfl ?_
      refine go_getr (ci := 3) hC 24 kwX3_transport_3 rfl rfl (by decide) rfl lkX3_transport_68 (by first | decide | (show _ < 5; omega) | (show _ < 10; omega) | omega) dX3_transport_6 ?_
      refine go_iload_n hC dX3_transport_9 rfl ?_
      refine go_iald hC rfl (by first | decide | (show _ < 5; omega) | (show _ < 10; omega) | omega) (gm_in rfl (by omega) (by decide)) (gm_cl rfl (by omega)) dX3_transport_10 ?_
      refine go_icmp_ge hC 45 dX3_transport_11 (by decide) (fun h11 => ?_) (fun h11 => ?_)
      ·
        rw [hfin] at hl
        rw [hl]
        refine go_sub h45 ?_
        repeat (first | exact gm_le_nil | refine gm_le_c ?_ | refine gm_le_n ?_)
      ·
        exact absurd (by rw [hI.1]; exact nI_le (Nat.le_refl _) hg31) h11
    · try dsimp only at ih ⊢
      intro G2 hI hl
      obtain ⟨d9, hd9⟩ : ∃ d9, g - j = d9 + 1 := ⟨g - j - 1, by omega⟩
      refine go_iload_n hC dX3_transport_4 rfl ?_
      refine go_aload_n hC dX3_transport_5 rfl ?_
      refine go_getr (ci := 3) hC 24 kwX3_transport_3 rfl rfl (by decide) rfl lkX3_transport_68 (by first | decide | (show _ < 5; omega) | (show _ < 10; omega) | omega) dX3_transport_6 ?_
      refine go_iload_n hC dX3_transport_9 rfl ?_
      refine go_iald hC rfl (by first | decide | (show _ < 5; omega) | (show _ < 10; omega) | omega) (gm_in rfl (by omega) (by decide)) (gm_cl rfl (by omega)) dX3_transport_10 ?_
      refine go_icmp_ge hC 45 dX3_transport_11 (by decide) (fun h11 => ?_) (fun h11 => ?_)
      ·
        exact absurd h11 (by rw [hI.1]; exact nI_ge hj hg31)
      ·
        refine go_aload_n hC dX3_transport_14 rfl ?_
        refine go_getr (ci := 3) hC 26 kwX3_transport_3 rfl rfl (by decide) rfl lkX3_transport_74 (by first | decide | (show _ < 5; omega) | (show _ < 10; omega) | omega) dX3_transport_15 ?_
        refine go_iload_n hC dX3_transport_18 rfl ?_
        refine go_iald hC rfl (by first | decide | (show _ < 5; omega) | (show _ < 10; omega) | omega) (gm_in rfl (by omega) (by decide)) (gm_cl rfl (by omega)) dX3_transport_19 ?_
        refine go_if_le hC 45 dX3_transport_20 (by decide) (fun h20 => ?_) (fun h20 => ?_)
        ·
          have hfin : trL n (g - j) G2 = G2 := by rw [hd9]; exact trL_t h20
          rw [hfin] at hl
          rw [hl]
          refine go_sub h45 ?_
          repeat (first | exact gm_le_nil | refine gm_le_c ?_ | refine gm_le_n ?_)
        ·
          refine go_iload_n hC dX3_transport_23 rfl ?_
          refine go_aload_n hC dX3_transport_24 rfl ?_
          refine go_iload_n hC dX3_transport_25 rfl ?_
          obtain ⟨hg9, q, a, hq, hq8, ha, haq, hdd⟩ := hI
          obtain ⟨q, rfl⟩ : ∃ q', q = q' + 1 := ⟨q - 1, by have : q ≠ 0 := fun e => h20 (by rw [hq, e]; decide); omega⟩
          have hd0 := hdd 0 (by omega)
          rw [Nat.add_zero] at hd0
          refine go_callV (n := 1) (k0 := 0) (n0 := 0) hC hX (c_X3_sendBlock _ n q _ a hn hq (by omega) hd0.1 hd0.2 ha (by omega)) gX3_transport_X3_sendBlock rfl (by decide +kernel) ⟨rfl, rfl⟩ (by rw [hR]; exact ⟨by decide, by decide⟩) (by rw [hR]; exact ⟨by decide, by decide⟩) rfl rfl rfl (by first | decide | (show _ < 5; omega) | (show _ < 10; omega) | omega) rfl rfl rfl (Nat.le_of_ble_eq_true rfl) dX3_transport_26 ?_
          simp only [gm_r0, gm_r1]
          have hsb := sbF_eq hq (by omega) hd0.1 hd0.2 ha (by omega)
          rw [← hsb]
          have hJ2 : JV n g (sbF n G2) := ⟨by rw [sbF_ne (by decide) (by decide) (by decide) (by decide) (by decide) (by decide) (by decide) (by simp)]; exact hg9, sbF_qb (by omega) ⟨q + 1, a, hq, hq8, ha, haq, hdd⟩ h20⟩
          have hl2 : trL n (g - (j + 1)) (sbF n G2) = trL n g G := by
            rw [← hl, hd9, show g - (j + 1) = d9 by omega, trL_f h20]
          have hmn : sbF n G2 0 31 0 = G2 0 31 0 + tF (G2 30 (uN (G2 28 (8 * n) 0)) 0 - 1 ≤ 0 ∧ ¬ brk G2 n (uN (G2 28 (8 * n) 0))) := by rw [hsb]; exact sbkM_many
          have h37 : GO lyM X 0 0 37 [some (.ref (gm_ad X 0 0)), some (.int (nI n)), some (.int (G2 0 31 0 - G 0 31 0)), some (.int (nI j))] [.int (tF (G2 30 (uN (G2 28 (8 * n) 0)) 0 - 1 ≤ 0 ∧ ¬ brk G2 n (uN (G2 28 (8 * n) 0)))), .int (G2 0 31 0 - G 0 31 0)] (sbF n G2) := by
            refine go_iadd hC dX3_transport_37 ?_
            refine go_istore_n hC 2 dX3_transport_38 rfl (Nat.le_of_ble_eq_true rfl) ?_
            simp only [gm_s0, gm_s1]
            refine go_iinc (v := 1) hC dX3_transport_39 rfl (by decide) ?_
            simp only [gm_s0, gm_s1]
            refine go_goto hC 4 dX3_transport_42 (by decide) ?_
            rw [nI_1, i_inc, ← hmn]
            exact ih _ hJ2 hl2
          refine go_if_eq hC 36 dX3_transport_29 (by decide) (fun h29 => ?_) (fun h29 => ?_)
          ·
            refine go_iconst (v := 0) hC dX3_transport_36 (by decide) ?_
            refine go_cast ?_ rfl h37
            first | (rw [h29]; done) | (rw [tF_t (tF_ne h29)]; done)
          ·
            refine go_iconst (v := 1) hC dX3_transport_32 (by decide) ?_
            refine go_goto hC 37 dX3_transport_33 (by decide) ?_
            refine go_cast ?_ rfl h37
            first | (rw [h29]; done) | (rw [tF_t (tF_ne h29)]; done)
  try dsimp only at lp4
  refine go_iconst (v := 0) hC dX3_transport_0 (by decide) ?_
  refine go_istore_n hC 2 dX3_transport_1 rfl (Nat.le_of_ble_eq_true rfl) ?_
  simp only [gm_s0, gm_s1]
  refine go_iconst (v := 0) hC dX3_transport_2 (by decide) ?_
  refine go_istore_n hC 3 dX3_transport_3 rfl (Nat.le_of_ble_eq_true rfl) ?_
  simp only [gm_s0, gm_s1]
  refine go_loc ?_ (lp4 G hJV rfl)
  rw [i_self]
  rfl
