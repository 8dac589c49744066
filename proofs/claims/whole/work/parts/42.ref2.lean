/-! ===== the reference (2) ===== -/
theorem go_joinM {Ly : gm_L} {X : gm_X} {ce sl pc jpc : Nat} {L : List (Option Value)} {rest : List Value} {M : gm_M} (M1 : gm_M) (hj : GO Ly X ce sl jpc L rest M1) (k : GO Ly X ce sl jpc L rest M1 → GO Ly X ce sl pc L rest M) : GO Ly X ce sl pc L rest M := k hj
theorem kwX3_drift_3 : ∀ w ∈ wsX30, w ∈ wsX3_drift := by decide +kernel
theorem lkX3_drift_16 : Cond.fieldLink RX3 16 "SharedFibreModel" "way" "[I" ∈ wsX3_drift := by decide +kernel
theorem lkX3_drift_101 : Cond.fieldLink RX3 101 "SharedFibreModel" "thrown" "I" ∈ wsX3_drift := by decide +kernel
set_option maxHeartbeats 4000000 in
set_option maxRecDepth 100000 in
/-- the reference: X3_drift -/
theorem c_X3_drift (G : gm_M) (u a : Int32) : KC lyM yX3_drift wsX3_drift ({ frames := 1, cells := 0, slots := 0, locals := 21 }) (fun ad => [.ref (ad 0 0), .int u, .int a]) G (fun _ => none) (tM ((wM G u ∨ a < -2 ∨ ¬ a ≤ 2) ∨ (G 4 (uN u) 0 + a) < 100 ∨ ¬ (G 4 (uN u) 0 + a) ≤ 600) (gm_up G 0 0 0 1) (gm_up (gm_up G 0 0 0 0) 4 (uN u) 0 (G 4 (uN u) 0 + a))) := by
  refine KC.of_v (by decide) rfl rfl (fun _ => by simp) (fun _ => by simp [Value.category])  ?_
  intro X hC hR hX hE
  simp only [List.map_cons, List.map_nil, List.cons_append, List.nil_append, List.length_cons, List.length_nil, List.replicate, Nat.reduceAdd, Nat.reduceSub]
  refine go_joinI (jpc := 24) (tF (wM G u ∨ a < -2 ∨ ¬ a ≤ 2)) ?_ (fun hj24 => ?_)
  ·
    refine go_istore_n hC 3 dX3_drift_24 rfl (Nat.le_of_ble_eq_true rfl) ?_
    simp only [gm_s0, gm_s1]
    refine go_aload_n hC dX3_drift_25 rfl ?_
    refine go_joinI (jpc := 66) (tF ((wM G u ∨ a < -2 ∨ ¬ a ≤ 2) ∨ (G 4 (uN u) 0 + a) < 100 ∨ ¬ (G 4 (uN u) 0 + a) ≤ 600)) ?_ (fun hj66 => ?_)
    ·
      refine go_puti (ci := 3) hC 0 kwX3_drift_3 rfl tyX3 tyX3_ok nmX3 rfl (by decide) rfl lkX3_drift_101 (by first | decide | (show _ < 5; omega) | (show _ < 10; omega) | omega) rfl rfl rfl dX3_drift_66 ?_
      refine go_aload_n hC dX3_drift_69 rfl ?_
      refine go_geti (ci := 3) hC 0 kwX3_drift_3 rfl rfl (by decide) rfl lkX3_drift_101 (by first | decide | (show _ < 5; omega) | (show _ < 10; omega) | omega) dX3_drift_70 ?_
      refine go_if_ne hC 86 dX3_drift_73 (by decide) (fun h73 => ?_) (fun h73 => ?_)
      ·
        rw [gm_us] at h73
        have hw := tF_ne h73
        refine go_cast rfl ?_ (hE _ _ dX3_drift_86)
        first | (rw [tM_t hw, tF_t hw]; done) | (rw [tM_f hnw, tF_f hnw, gm_un1 (by decide)])
      ·
        rw [gm_us] at h73
        have hnw := tF_eq h73
        obtain ⟨hue, hu5⟩ := bU_ix (fun q => hnw (Or.inl (Or.inl (Or.inl q))))
        refine go_aload_n hC dX3_drift_76 rfl ?_
        refine go_getr (ci := 3) hC 3 kwX3_drift_3 rfl rfl (by decide) rfl lkX3_drift_16 (by first | decide | (show _ < 5; omega) | (show _ < 10; omega) | omega) dX3_drift_77 ?_
        refine go_iload_n hC dX3_drift_80 rfl ?_
        refine go_dup2 hC dX3_drift_81 rfl rfl ?_
        refine go_iald hC rfl (by first | decide | (show _ < 5; omega) | (show _ < 10; omega) | omega) (gm_in hue (by omega) (by decide)) (gm_cl hue (by omega)) dX3_drift_82 ?_
        refine go_iload_n hC dX3_drift_83 rfl ?_
        refine go_iadd hC dX3_drift_84 ?_
        refine go_iast hC rfl (by first | decide | (show _ < 5; omega) | (show _ < 10; omega) | omega) (gm_in hue (by omega) (by decide)) (gm_cl hue (by omega)) dX3_drift_85 ?_
        refine go_cast rfl ?_ (hE _ _ dX3_drift_86)
        first | (rw [tM_t hw, tF_t hw]; done) | (rw [tM_f hnw, tF_f hnw, gm_un1 (by decide)])
    ·
      refine go_iload_n hC dX3_drift_26 rfl ?_
      refine go_if_eq hC 34 dX3_drift_27 (by decide) (fun h27 => ?_) (fun h27 => ?_)
      ·
        obtain ⟨hue, hu5⟩ := bU_ix (fun q => tF_eq h27 (Or.inl (Or.inl q)))
        refine go_aload_n hC dX3_drift_34 rfl ?_
        refine go_getr (ci := 3) hC 3 kwX3_drift_3 rfl rfl (by decide) rfl lkX3_drift_16 (by first | decide | (show _ < 5; omega) | (show _ < 10; omega) | omega) dX3_drift_35 ?_
        refine go_iload_n hC dX3_drift_38 rfl ?_
        refine go_iald hC rfl (by first | decide | (show _ < 5; omega) | (show _ < 10; omega) | omega) (gm_in hue (by omega) (by decide)) (gm_cl hue (by omega)) dX3_drift_39 ?_
        refine go_iload_n hC dX3_drift_40 rfl ?_
        refine go_iadd hC dX3_drift_41 ?_
        refine go_bipush (v := 100) hC dX3_drift_42 (by decide) ?_
        refine go_icmp_lt hC 61 dX3_drift_44 (by decide) (fun h44 => ?_) (fun h44 => ?_)
        ·
          refine go_iconst (v := 1) hC dX3_drift_61 (by decide) ?_
          refine go_goto hC 66 dX3_drift_62 (by decide) ?_
          refine go_cast ?_ rfl hj66
          first | rw [tF_t (P := ((wM G u ∨ a < -2 ∨ ¬ a ≤ 2) ∨ (G 4 (uN u) 0 + a) < 100 ∨ ¬ (G 4 (uN u) 0 + a) ≤ 600)) (Or.inl (tF_ne h27))] | rw [tF_t (P := ((wM G u ∨ a < -2 ∨ ¬ a ≤ 2) ∨ (G 4 (uN u) 0 + a) < 100 ∨ ¬ (G 4 (uN u) 0 + a) ≤ 600)) (Or.inr (Or.inl h44))] | rw [tF_t (P := ((wM G u ∨ a < -2 ∨ ¬ a ≤ 2) ∨ (G 4 (uN u) 0 + a) < 100 ∨ ¬ (G 4 (uN u) 0 + a) ≤ 600)) (Or.inr (Or.inr h58))] | rw [tF_f (P := ((wM G u ∨ a < -2 ∨ ¬ a ≤ 2) ∨ (G 4 (uN u) 0 + a) < 100 ∨ ¬ (G 4 (uN u) 0 + a) ≤ 600)) (fun q => q.elim (tF_eq h27) (fun q => q.elim h44 (fun q => q h58)))]
        ·
          refine go_aload_n hC dX3_drift_47 rfl ?_
          refine go_getr (ci := 3) hC 3 kwX3_drift_3 rfl rfl (by decide) rfl lkX3_drift_16 (by first | decide | (show _ < 5; omega) | (show _ < 10; omega) | omega) dX3_drift_48 ?_
          refine go_iload_n hC dX3_drift_51 rfl ?_
          refine go_iald hC rfl (by first | decide | (show _ < 5; omega) | (show _ < 10; omega) | omega) (gm_in hue (by omega) (by decide)) (gm_cl hue (by omega)) dX3_drift_52 ?_
          refine go_iload_n hC dX3_drift_53 rfl ?_
          refine go_iadd hC dX3_drift_54 ?_
          refine go_sipush (v := 600) hC dX3_drift_55 (by decide) ?_
          refine go_icmp_le hC 65 dX3_drift_58 (by decide) (fun h58 => ?_) (fun h58 => ?_)
          ·
            refine go_iconst (v := 0) hC dX3_drift_65 (by decide) ?_
            refine go_cast ?_ rfl hj66
            first | rw [tF_t (P := ((wM G u ∨ a < -2 ∨ ¬ a ≤ 2) ∨ (G 4 (uN u) 0 + a) < 100 ∨ ¬ (G 4 (uN u) 0 + a) ≤ 600)) (Or.inl (tF_ne h27))] | rw [tF_t (P := ((wM G u ∨ a < -2 ∨ ¬ a ≤ 2) ∨ (G 4 (uN u) 0 + a) < 100 ∨ ¬ (G 4 (uN u) 0 + a) ≤ 600)) (Or.inr (Or.inl h44))] | rw [tF_t (P := ((wM G u ∨ a < -2 ∨ ¬ a ≤ 2) ∨ (G 4 (uN u) 0 + a) < 100 ∨ ¬ (G 4 (uN u) 0 + a) ≤ 600)) (Or.inr (Or.inr h58))] | rw [tF_f (P := ((wM G u ∨ a < -2 ∨ ¬ a ≤ 2) ∨ (G 4 (uN u) 0 + a) < 100 ∨ ¬ (G 4 (uN u) 0 + a) ≤ 600)) (fun q => q.elim (tF_eq h27) (fun q => q.elim h44 (fun q => q h58)))]
          ·
            refine go_iconst (v := 1) hC dX3_drift_61 (by decide) ?_
            refine go_goto hC 66 dX3_drift_62 (by decide) ?_
            refine go_cast ?_ rfl hj66
            first | rw [tF_t (P := ((wM G u ∨ a < -2 ∨ ¬ a ≤ 2) ∨ (G 4 (uN u) 0 + a) < 100 ∨ ¬ (G 4 (uN u) 0 + a) ≤ 600)) (Or.inl (tF_ne h27))] | rw [tF_t (P := ((wM G u ∨ a < -2 ∨ ¬ a ≤ 2) ∨ (G 4 (uN u) 0 + a) < 100 ∨ ¬ (G 4 (uN u) 0 + a) ≤ 600)) (Or.inr (Or.inl h44))] | rw [tF_t (P := ((wM G u ∨ a < -2 ∨ ¬ a ≤ 2) ∨ (G 4 (uN u) 0 + a) < 100 ∨ ¬ (G 4 (uN u) 0 + a) ≤ 600)) (Or.inr (Or.inr h58))] | rw [tF_f (P := ((wM G u ∨ a < -2 ∨ ¬ a ≤ 2) ∨ (G 4 (uN u) 0 + a) < 100 ∨ ¬ (G 4 (uN u) 0 + a) ≤ 600)) (fun q => q.elim (tF_eq h27) (fun q => q.elim h44 (fun q => q h58)))]
      ·
        refine go_iconst (v := 1) hC dX3_drift_30 (by decide) ?_
        refine go_goto hC 66 dX3_drift_31 (by decide) ?_
        refine go_cast ?_ rfl hj66
        first | rw [tF_t (P := ((wM G u ∨ a < -2 ∨ ¬ a ≤ 2) ∨ (G 4 (uN u) 0 + a) < 100 ∨ ¬ (G 4 (uN u) 0 + a) ≤ 600)) (Or.inl (tF_ne h27))] | rw [tF_t (P := ((wM G u ∨ a < -2 ∨ ¬ a ≤ 2) ∨ (G 4 (uN u) 0 + a) < 100 ∨ ¬ (G 4 (uN u) 0 + a) ≤ 600)) (Or.inr (Or.inl h44))] | rw [tF_t (P := ((wM G u ∨ a < -2 ∨ ¬ a ≤ 2) ∨ (G 4 (uN u) 0 + a) < 100 ∨ ¬ (G 4 (uN u) 0 + a) ≤ 600)) (Or.inr (Or.inr h58))] | rw [tF_f (P := ((wM G u ∨ a < -2 ∨ ¬ a ≤ 2) ∨ (G 4 (uN u) 0 + a) < 100 ∨ ¬ (G 4 (uN u) 0 + a) ≤ 600)) (fun q => q.elim (tF_eq h27) (fun q => q.elim h44 (fun q => q h58)))]
  ·
    refine go_aload_n hC dX3_drift_0 rfl ?_
    refine go_iload_n hC dX3_drift_1 rfl ?_
    refine go_callV (n := 1) (k0 := 0) (n0 := 0) hC hX (c_X3_isAway _ _) gX3_drift_X3_isAway rfl (by decide +kernel) ⟨rfl, rfl⟩ (by rw [hR]; exact ⟨by decide, by decide⟩) (by rw [hR]; exact ⟨by decide, by decide⟩) rfl rfl rfl (by first | decide | (show _ < 5; omega) | (show _ < 10; omega) | omega) rfl rfl rfl (Nat.le_of_ble_eq_true rfl) dX3_drift_2 ?_
    simp only [gm_r0, gm_r1]
    refine go_if_ne hC 19 dX3_drift_5 (by decide) (fun h5 => ?_) (fun h5 => ?_)
    ·
      refine go_iconst (v := 1) hC dX3_drift_19 (by decide) ?_
      refine go_goto hC 24 dX3_drift_20 (by decide) ?_
      refine go_cast ?_ rfl hj24
      first | rw [tF_t (P := (wM G u ∨ a < -2 ∨ ¬ a ≤ 2)) (Or.inl (tF_ne h5))] | rw [tF_t (P := (wM G u ∨ a < -2 ∨ ¬ a ≤ 2)) (Or.inr (Or.inl h11))] | rw [tF_t (P := (wM G u ∨ a < -2 ∨ ¬ a ≤ 2)) (Or.inr (Or.inr h16))] | rw [tF_f (P := (wM G u ∨ a < -2 ∨ ¬ a ≤ 2)) (fun q => q.elim (tF_eq h5) (fun q => q.elim h11 (fun q => q h16)))]
    ·
      refine go_iload_n hC dX3_drift_8 rfl ?_
      refine go_bipush (v := (-2)) hC dX3_drift_9 (by decide) ?_
      refine go_icmp_lt hC 19 dX3_drift_11 (by decide) (fun h11 => ?_) (fun h11 => ?_)
      ·
        refine go_iconst (v := 1) hC dX3_drift_19 (by decide) ?_
        refine go_goto hC 24 dX3_drift_20 (by decide) ?_
        refine go_cast ?_ rfl hj24
        first | rw [tF_t (P := (wM G u ∨ a < -2 ∨ ¬ a ≤ 2)) (Or.inl (tF_ne h5))] | rw [tF_t (P := (wM G u ∨ a < -2 ∨ ¬ a ≤ 2)) (Or.inr (Or.inl h11))] | rw [tF_t (P := (wM G u ∨ a < -2 ∨ ¬ a ≤ 2)) (Or.inr (Or.inr h16))] | rw [tF_f (P := (wM G u ∨ a < -2 ∨ ¬ a ≤ 2)) (fun q => q.elim (tF_eq h5) (fun q => q.elim h11 (fun q => q h16)))]
      ·
        refine go_iload_n hC dX3_drift_14 rfl ?_
        refine go_iconst (v := 2) hC dX3_drift_15 (by decide) ?_
        refine go_icmp_le hC 23 dX3_drift_16 (by decide) (fun h16 => ?_) (fun h16 => ?_)
        ·
          refine go_iconst (v := 0) hC dX3_drift_23 (by decide) ?_
          refine go_cast ?_ rfl hj24
          first | rw [tF_t (P := (wM G u ∨ a < -2 ∨ ¬ a ≤ 2)) (Or.inl (tF_ne h5))] | rw [tF_t (P := (wM G u ∨ a < -2 ∨ ¬ a ≤ 2)) (Or.inr (Or.inl h11))] | rw [tF_t (P := (wM G u ∨ a < -2 ∨ ¬ a ≤ 2)) (Or.inr (Or.inr h16))] | rw [tF_f (P := (wM G u ∨ a < -2 ∨ ¬ a ≤ 2)) (fun q => q.elim (tF_eq h5) (fun q => q.elim h11 (fun q => q h16)))]
        ·
          refine go_iconst (v := 1) hC dX3_drift_19 (by decide) ?_
          refine go_goto hC 24 dX3_drift_20 (by decide) ?_
          refine go_cast ?_ rfl hj24
          first | rw [tF_t (P := (wM G u ∨ a < -2 ∨ ¬ a ≤ 2)) (Or.inl (tF_ne h5))] | rw [tF_t (P := (wM G u ∨ a < -2 ∨ ¬ a ≤ 2)) (Or.inr (Or.inl h11))] | rw [tF_t (P := (wM G u ∨ a < -2 ∨ ¬ a ≤ 2)) (Or.inr (Or.inr h16))] | rw [tF_f (P := (wM G u ∨ a < -2 ∨ ¬ a ≤ 2)) (fun q => q.elim (tF_eq h5) (fun q => q.elim h11 (fun q => q h16)))]
def sdM (G : gm_M) (n q d : Nat) (b : Int32) : gm_M := gm_up (gm_up (gm_up (gm_up (gm_up G 0 0 0 0) 28 (8 * n + q) 0 (G 0 28 0)) 27 n 0 (G 27 n 0 + 1)) 30 d 0 b) 0 28 0 (G 0 28 0 + 1)
noncomputable def sdR (P : Prop) (x : Int32) : Int32 := @ite _ P (Classical.propDecidable P) 0 x
theorem sdR_t {P : Prop} {x : Int32} (h : P) : sdR P x = 0 := if_pos h
theorem sdR_f {P : Prop} {x : Int32} (h : ¬ P) : sdR P x = x := if_neg h
theorem kwX3_send_3 : ∀ w ∈ wsX30, w ∈ wsX3_send := by decide +kernel
theorem lkX3_send_74 : Cond.fieldLink RX3 74 "SharedFibreModel" "queued" "[I" ∈ wsX3_send := by decide +kernel
theorem lkX3_send_77 : Cond.fieldLink RX3 77 "SharedFibreModel" "queue" "[I" ∈ wsX3_send := by decide +kernel
theorem lkX3_send_80 : Cond.fieldLink RX3 80 "SharedFibreModel" "left" "[I" ∈ wsX3_send := by decide +kernel
theorem lkX3_send_101 : Cond.fieldLink RX3 101 "SharedFibreModel" "thrown" "I" ∈ wsX3_send := by decide +kernel
theorem lkX3_send_126 : Cond.fieldLink RX3 126 "SharedFibreModel" "datagrams" "I" ∈ wsX3_send := by decide +kernel
set_option maxHeartbeats 4000000 in
set_option maxRecDepth 100000 in
/-- the reference: X3_send -/
theorem c_X3_send (G : gm_M) (u c b : Int32) (q : Nat → Nat) (hq : ∀ n, n < 10 → G 27 n 0 = nI (q n) ∧ q n ≤ 8) (d : Nat) (hd : G 0 28 0 = nI d) (hd1 : d ≤ 100) : KC lyM yX3_send wsX3_send ({ frames := 2, cells := 0, slots := 0, locals := 43 }) (fun ad => [.ref (ad 0 0), .int u, .int c, .int b]) G (fun _ => some (.int (sdR (((wM G u ∨ bC c) ∨ b < 1 ∨ ¬ b ≤ 20) ∨ (G 27 (2 * uN u + uN c) 0 = 8 ∨ G 0 28 0 = 100)) (G 0 28 0 + 1 - 1)))) (tM (((wM G u ∨ bC c) ∨ b < 1 ∨ ¬ b ≤ 20) ∨ (G 27 (2 * uN u + uN c) 0 = 8 ∨ G 0 28 0 = 100)) (gm_up G 0 0 0 (cdF ((wM G u ∨ bC c) ∨ b < 1 ∨ ¬ b ≤ 20) (G 27 (2 * uN u + uN c) 0 = 8 ∨ G 0 28 0 = 100))) (sdM G (2 * uN u + uN c) (q (2 * uN u + uN c)) d b)) := by
  refine KC.of_i (by decide) rfl rfl (fun _ => by simp) (fun _ => by simp [Value.category])  ?_
  intro X hC hR hX hE
  simp only [List.map_cons, List.map_nil, List.cons_append, List.nil_append, List.length_cons, List.length_nil, List.replicate, Nat.reduceAdd, Nat.reduceSub]
  refine go_aload_n hC dX3_send_0 rfl ?_
  refine go_joinI (jpc := 54) (cdF ((wM G u ∨ bC c) ∨ b < 1 ∨ ¬ b ≤ 20) (G 27 (2 * uN u + uN c) 0 = 8 ∨ G 0 28 0 = 100)) ?_ (fun hj54 => ?_)
  ·
    refine go_puti (ci := 3) hC 0 kwX3_send_3 rfl tyX3 tyX3_ok nmX3 rfl (by decide) rfl lkX3_send_101 (by first | decide | (show _ < 5; omega) | (show _ < 10; omega) | omega) rfl rfl rfl dX3_send_54 ?_
    refine go_aload_n hC dX3_send_57 rfl ?_
    refine go_geti (ci := 3) hC 0 kwX3_send_3 rfl rfl (by decide) rfl lkX3_send_101 (by first | decide | (show _ < 5; omega) | (show _ < 10; omega) | omega) dX3_send_58 ?_
    refine go_if_eq hC 66 dX3_send_61 (by decide) (fun h61 => ?_) (fun h61 => ?_)
    ·
      rw [gm_us] at h61
      obtain ⟨hnb, hn2⟩ := cdF_e h61
      obtain ⟨hue, hu5⟩ := bU_ix (fun q => hnb (Or.inl (Or.inl (Or.inl q))))
      obtain ⟨hce, hc2⟩ := bC_ix (fun q => hnb (Or.inl (Or.inr q)))
      have hix : (2 : Int32) * u + c = nI (2 * uN u + uN c) := by rw [← nI_add, ← hce]; congr 1; exact (congrArg (2 * ·) hue).trans (pk_mul 2 (uN u))
      have hq1 := (hq (2 * uN u + uN c) (by omega)).1
      have hq8 : q (2 * uN u + uN c) < 8 := by
        have := (hq (2 * uN u + uN c) (by omega)).2
        have h2 : q (2 * uN u + uN c) ≠ 8 := fun e => hn2 (Or.inl (by rw [hq1, e]; decide))
        omega
      have hd9 : d < 100 := by
        have h2 : d ≠ 100 := fun e => hn2 (Or.inr (by rw [hd, e]; decide))
        omega
      rw [h61]
      refine go_iconst (v := 2) hC dX3_send_66 (by decide) ?_
      refine go_iload_n hC dX3_send_67 rfl ?_
      refine go_imul hC dX3_send_68 ?_
      refine go_iload_n hC dX3_send_69 rfl ?_
      refine go_iadd hC dX3_send_70 ?_
      rw [hix]
      refine go_istore hC dX3_send_71 (Nat.le_of_ble_eq_true rfl) ?_
      simp only [gm_s0, gm_s1]
      refine go_aload_n hC dX3_send_73 rfl ?_
      refine go_getr (ci := 3) hC 27 kwX3_send_3 rfl rfl (by decide) rfl lkX3_send_77 (by first | decide | (show _ < 5; omega) | (show _ < 10; omega) | omega) dX3_send_74 ?_
      refine go_bipush (v := 8) hC dX3_send_77 (by decide) ?_
      refine go_iload hC dX3_send_79 rfl ?_
      refine go_imul hC dX3_send_81 ?_
      refine go_aload_n hC dX3_send_82 rfl ?_
      refine go_getr (ci := 3) hC 26 kwX3_send_3 rfl rfl (by decide) rfl lkX3_send_74 (by first | decide | (show _ < 5; omega) | (show _ < 10; omega) | omega) dX3_send_83 ?_
      refine go_iload hC dX3_send_86 rfl ?_
      refine go_iald hC rfl (by first | decide | (show _ < 5; omega) | (show _ < 10; omega) | omega) (gm_in rfl (by omega) (by decide)) (gm_cl rfl (by omega)) dX3_send_88 ?_
      refine go_iadd hC dX3_send_89 ?_
      refine go_aload_n hC dX3_send_90 rfl ?_
      refine go_geti (ci := 3) hC 28 kwX3_send_3 rfl rfl (by decide) rfl lkX3_send_126 (by first | decide | (show _ < 5; omega) | (show _ < 10; omega) | omega) dX3_send_91 ?_
      refine go_iast hC rfl (by first | decide | (show _ < 5; omega) | (show _ < 10; omega) | omega) (gm_in (n := 8 * (2 * uN u + uN c) + q (2 * uN u + uN c)) (show (8 : Int32) * nI (2 * uN u + uN c) + gm_up G 0 0 0 0 27 (2 * uN u + uN c) 0 = nI (8 * (2 * uN u + uN c) + q (2 * uN u + uN c)) by rw [gm_un1 (by decide), hq1]; exact (congrArg (· + nI (q (2 * uN u + uN c))) (pk_mul 8 (2 * uN u + uN c))).trans (nI_add _ _)) (by omega) (by decide)) (gm_cl (n := 8 * (2 * uN u + uN c) + q (2 * uN u + uN c)) (show (8 : Int32) * nI (2 * uN u + uN c) + gm_up G 0 0 0 0 27 (2 * uN u + uN c) 0 = nI (8 * (2 * uN u + uN c) + q (2 * uN u + uN c)) by rw [gm_un1 (by decide), hq1]; exact (congrArg (· + nI (q (2 * uN u + uN c))) (pk_mul 8 (2 * uN u + uN c))).trans (nI_add _ _)) (by omega)) dX3_send_94 ?_
      refine go_aload_n hC dX3_send_95 rfl ?_
      refine go_getr (ci := 3) hC 26 kwX3_send_3 rfl rfl (by decide) rfl lkX3_send_74 (by first | decide | (show _ < 5; omega) | (show _ < 10; omega) | omega) dX3_send_96 ?_
      refine go_iload hC dX3_send_99 rfl ?_
      refine go_dup2 hC dX3_send_101 rfl rfl ?_
      refine go_iald hC rfl (by first | decide | (show _ < 5; omega) | (show _ < 10; omega) | omega) (gm_in rfl (by omega) (by decide)) (gm_cl rfl (by omega)) dX3_send_102 ?_
      refine go_iconst (v := 1) hC dX3_send_103 (by decide) ?_
      refine go_iadd hC dX3_send_104 ?_
      refine go_iast hC rfl (by first | decide | (show _ < 5; omega) | (show _ < 10; omega) | omega) (gm_in rfl (by omega) (by decide)) (gm_cl rfl (by omega)) dX3_send_105 ?_
      refine go_aload_n hC dX3_send_106 rfl ?_
      refine go_getr (ci := 3) hC 29 kwX3_send_3 rfl rfl (by decide) rfl lkX3_send_80 (by first | decide | (show _ < 5; omega) | (show _ < 10; omega) | omega) dX3_send_107 ?_
      refine go_aload_n hC dX3_send_110 rfl ?_
      refine go_geti (ci := 3) hC 28 kwX3_send_3 rfl rfl (by decide) rfl lkX3_send_126 (by first | decide | (show _ < 5; omega) | (show _ < 10; omega) | omega) dX3_send_111 ?_
      refine go_iload_n hC dX3_send_114 rfl ?_
      refine go_iast hC rfl (by first | decide | (show _ < 5; omega) | (show _ < 10; omega) | omega) (gm_in (n := d) (by rw [gm_un1 (by decide), gm_un1 (by decide), gm_un2 (by decide)]; exact hd) (by omega) (by decide)) (gm_cl (n := d) (by rw [gm_un1 (by decide), gm_un1 (by decide), gm_un2 (by decide)]; exact hd) (by omega)) dX3_send_115 ?_
      refine go_aload_n hC dX3_send_116 rfl ?_
      refine go_dup hC dX3_send_117 rfl ?_
      refine go_geti (ci := 3) hC 28 kwX3_send_3 rfl rfl (by decide) rfl lkX3_send_126 (by first | decide | (show _ < 5; omega) | (show _ < 10; omega) | omega) dX3_send_118 ?_
      refine go_iconst (v := 1) hC dX3_send_121 (by decide) ?_
      refine go_iadd hC dX3_send_122 ?_
      refine go_puti (ci := 3) hC 28 kwX3_send_3 rfl tyX3 tyX3_ok nmX3 rfl (by decide) rfl lkX3_send_126 (by first | decide | (show _ < 5; omega) | (show _ < 10; omega) | omega) rfl rfl rfl dX3_send_123 ?_
      refine go_aload_n hC dX3_send_126 rfl ?_
      refine go_geti (ci := 3) hC 28 kwX3_send_3 rfl rfl (by decide) rfl lkX3_send_126 (by first | decide | (show _ < 5; omega) | (show _ < 10; omega) | omega) dX3_send_127 ?_
      refine go_iconst (v := 1) hC dX3_send_130 (by decide) ?_
      refine go_isub hC dX3_send_131 ?_
      refine go_cast ?_ ?_ (hE _ _ dX3_send_132)
      · rw [sdR_f (fun q => q.elim hnb hn2)]
        simp only [gm_us, gm_un1 (show (0 : Nat) ≠ 30 by decide), gm_un1 (show (0 : Nat) ≠ 27 by decide), gm_un1 (show (0 : Nat) ≠ 28 by decide), gm_un2 (show (28 : Nat) ≠ 0 by decide)]
      · rw [tM_f (fun q => q.elim hnb hn2)]
        simp only [sdM, gm_un1 (show (0 : Nat) ≠ 30 by decide), gm_un1 (show (0 : Nat) ≠ 27 by decide), gm_un1 (show (0 : Nat) ≠ 28 by decide), gm_un1 (show (27 : Nat) ≠ 0 by decide), gm_un1 (show (27 : Nat) ≠ 28 by decide), gm_un2 (show (28 : Nat) ≠ 0 by decide)]
    ·
      rw [gm_us] at h61
      have hw := cdF_ne h61
      refine go_iconst (v := 0) hC dX3_send_64 (by decide) ?_
      refine go_cast ?_ ?_ (hE _ _ dX3_send_65)
      · rw [sdR_t hw]
      · rw [tM_t hw]
  ·
    refine go_aload_n hC dX3_send_1 rfl ?_
    refine go_iload_n hC dX3_send_2 rfl ?_
    refine go_iload_n hC dX3_send_3 rfl ?_
    refine go_callV (n := 2) (k0 := 0) (n0 := 0) hC hX (c_X3_noContainer _ _ _) gX3_send_X3_noContainer rfl (by decide +kernel) ⟨rfl, rfl⟩ (by rw [hR]; exact ⟨by decide, by decide⟩) (by rw [hR]; exact ⟨by decide, by decide⟩) rfl rfl rfl (by first | decide | (show _ < 5; omega) | (show _ < 10; omega) | omega) rfl rfl rfl (Nat.le_of_ble_eq_true rfl) dX3_send_4 ?_
    simp only [gm_r0, gm_r1]
    refine go_if_ne hC 21 dX3_send_7 (by decide) (fun h7 => ?_) (fun h7 => ?_)
    ·
      refine go_iconst (v := 1) hC dX3_send_21 (by decide) ?_
      refine go_goto hC 54 dX3_send_22 (by decide) ?_
      refine go_cast ?_ rfl hj54
      first | rw [cdF_1 (P := ((wM G u ∨ bC c) ∨ b < 1 ∨ ¬ b ≤ 20)) (Or.inl (tF_ne h7))] | rw [cdF_1 (P := ((wM G u ∨ bC c) ∨ b < 1 ∨ ¬ b ≤ 20)) (Or.inr (Or.inl h12))] | rw [cdF_1 (P := ((wM G u ∨ bC c) ∨ b < 1 ∨ ¬ b ≤ 20)) (Or.inr (Or.inr h18))] | rw [cdF_2 (P := ((wM G u ∨ bC c) ∨ b < 1 ∨ ¬ b ≤ 20)) (Q := (G 27 (2 * uN u + uN c) 0 = 8 ∨ G 0 28 0 = 100)) hnb (Or.inl h37)] | rw [cdF_2 (P := ((wM G u ∨ bC c) ∨ b < 1 ∨ ¬ b ≤ 20)) (Q := (G 27 (2 * uN u + uN c) 0 = 8 ∨ G 0 28 0 = 100)) hnb (Or.inr h46)] | rw [cdF_0 (P := ((wM G u ∨ bC c) ∨ b < 1 ∨ ¬ b ≤ 20)) (Q := (G 27 (2 * uN u + uN c) 0 = 8 ∨ G 0 28 0 = 100)) hnb (fun q => q.elim h37 h46)]
    ·
      refine go_iload_n hC dX3_send_10 rfl ?_
      refine go_iconst (v := 1) hC dX3_send_11 (by decide) ?_
      refine go_icmp_lt hC 21 dX3_send_12 (by decide) (fun h12 => ?_) (fun h12 => ?_)
      ·
        refine go_iconst (v := 1) hC dX3_send_21 (by decide) ?_
        refine go_goto hC 54 dX3_send_22 (by decide) ?_
        refine go_cast ?_ rfl hj54
        first | rw [cdF_1 (P := ((wM G u ∨ bC c) ∨ b < 1 ∨ ¬ b ≤ 20)) (Or.inl (tF_ne h7))] | rw [cdF_1 (P := ((wM G u ∨ bC c) ∨ b < 1 ∨ ¬ b ≤ 20)) (Or.inr (Or.inl h12))] | rw [cdF_1 (P := ((wM G u ∨ bC c) ∨ b < 1 ∨ ¬ b ≤ 20)) (Or.inr (Or.inr h18))] | rw [cdF_2 (P := ((wM G u ∨ bC c) ∨ b < 1 ∨ ¬ b ≤ 20)) (Q := (G 27 (2 * uN u + uN c) 0 = 8 ∨ G 0 28 0 = 100)) hnb (Or.inl h37)] | rw [cdF_2 (P := ((wM G u ∨ bC c) ∨ b < 1 ∨ ¬ b ≤ 20)) (Q := (G 27 (2 * uN u + uN c) 0 = 8 ∨ G 0 28 0 = 100)) hnb (Or.inr h46)] | rw [cdF_0 (P := ((wM G u ∨ bC c) ∨ b < 1 ∨ ¬ b ≤ 20)) (Q := (G 27 (2 * uN u + uN c) 0 = 8 ∨ G 0 28 0 = 100)) hnb (fun q => q.elim h37 h46)]
      ·
        refine go_iload_n hC dX3_send_15 rfl ?_
        refine go_bipush (v := 20) hC dX3_send_16 (by decide) ?_
        refine go_icmp_le hC 25 dX3_send_18 (by decide) (fun h18 => ?_) (fun h18 => ?_)
        ·
          have hnb : ¬ ((wM G u ∨ bC c) ∨ b < 1 ∨ ¬ b ≤ 20) := fun q => q.elim (tF_eq h7) (fun q => q.elim h12 (fun q => q h18))
          obtain ⟨hue, hu5⟩ := bU_ix (fun q => hnb (Or.inl (Or.inl (Or.inl q))))
          obtain ⟨hce, hc2⟩ := bC_ix (fun q => hnb (Or.inl (Or.inr q)))
          have hix : (2 : Int32) * u + c = nI (2 * uN u + uN c) := by rw [← nI_add, ← hce]; congr 1; exact (congrArg (2 * ·) hue).trans (pk_mul 2 (uN u))
          refine go_aload_n hC dX3_send_25 rfl ?_
          refine go_getr (ci := 3) hC 26 kwX3_send_3 rfl rfl (by decide) rfl lkX3_send_74 (by first | decide | (show _ < 5; omega) | (show _ < 10; omega) | omega) dX3_send_26 ?_
          refine go_iconst (v := 2) hC dX3_send_29 (by decide) ?_
          refine go_iload_n hC dX3_send_30 rfl ?_
          refine go_imul hC dX3_send_31 ?_
          refine go_iload_n hC dX3_send_32 rfl ?_
          refine go_iadd hC dX3_send_33 ?_
          refine go_iald hC rfl (by first | decide | (show _ < 5; omega) | (show _ < 10; omega) | omega) (gm_in (n := (2 * uN u + uN c)) hix (by omega) (by decide)) (gm_cl (n := (2 * uN u + uN c)) hix (by omega)) dX3_send_34 ?_
          refine go_bipush (v := 8) hC dX3_send_35 (by decide) ?_
          refine go_icmp_eq hC 49 dX3_send_37 (by decide) (fun h37 => ?_) (fun h37 => ?_)
          ·
            refine go_iconst (v := 2) hC dX3_send_49 (by decide) ?_
            refine go_goto hC 54 dX3_send_50 (by decide) ?_
            refine go_cast ?_ rfl hj54
            first | rw [cdF_1 (P := ((wM G u ∨ bC c) ∨ b < 1 ∨ ¬ b ≤ 20)) (Or.inl (tF_ne h7))] | rw [cdF_1 (P := ((wM G u ∨ bC c) ∨ b < 1 ∨ ¬ b ≤ 20)) (Or.inr (Or.inl h12))] | rw [cdF_1 (P := ((wM G u ∨ bC c) ∨ b < 1 ∨ ¬ b ≤ 20)) (Or.inr (Or.inr h18))] | rw [cdF_2 (P := ((wM G u ∨ bC c) ∨ b < 1 ∨ ¬ b ≤ 20)) (Q := (G 27 (2 * uN u + uN c) 0 = 8 ∨ G 0 28 0 = 100)) hnb (Or.inl h37)] | rw [cdF_2 (P := ((wM G u ∨ bC c) ∨ b < 1 ∨ ¬ b ≤ 20)) (Q := (G 27 (2 * uN u + uN c) 0 = 8 ∨ G 0 28 0 = 100)) hnb (Or.inr h46)] | rw [cdF_0 (P := ((wM G u ∨ bC c) ∨ b < 1 ∨ ¬ b ≤ 20)) (Q := (G 27 (2 * uN u + uN c) 0 = 8 ∨ G 0 28 0 = 100)) hnb (fun q => q.elim h37 h46)]
          ·
            refine go_aload_n hC dX3_send_40 rfl ?_
            refine go_geti (ci := 3) hC 28 kwX3_send_3 rfl rfl (by decide) rfl lkX3_send_126 (by first | decide | (show _ < 5; omega) | (show _ < 10; omega) | omega) dX3_send_41 ?_
            refine go_bipush (v := 100) hC dX3_send_44 (by decide) ?_
            refine go_icmp_ne hC 53 dX3_send_46 (by decide) (fun h46 => ?_) (fun h46 => ?_)
            ·
              refine go_iconst (v := 0) hC dX3_send_53 (by decide) ?_
              refine go_cast ?_ rfl hj54
              first | rw [cdF_1 (P := ((wM G u ∨ bC c) ∨ b < 1 ∨ ¬ b ≤ 20)) (Or.inl (tF_ne h7))] | rw [cdF_1 (P := ((wM G u ∨ bC c) ∨ b < 1 ∨ ¬ b ≤ 20)) (Or.inr (Or.inl h12))] | rw [cdF_1 (P := ((wM G u ∨ bC c) ∨ b < 1 ∨ ¬ b ≤ 20)) (Or.inr (Or.inr h18))] | rw [cdF_2 (P := ((wM G u ∨ bC c) ∨ b < 1 ∨ ¬ b ≤ 20)) (Q := (G 27 (2 * uN u + uN c) 0 = 8 ∨ G 0 28 0 = 100)) hnb (Or.inl h37)] | rw [cdF_2 (P := ((wM G u ∨ bC c) ∨ b < 1 ∨ ¬ b ≤ 20)) (Q := (G 27 (2 * uN u + uN c) 0 = 8 ∨ G 0 28 0 = 100)) hnb (Or.inr h46)] | rw [cdF_0 (P := ((wM G u ∨ bC c) ∨ b < 1 ∨ ¬ b ≤ 20)) (Q := (G 27 (2 * uN u + uN c) 0 = 8 ∨ G 0 28 0 = 100)) hnb (fun q => q.elim h37 h46)]
            ·
              refine go_iconst (v := 2) hC dX3_send_49 (by decide) ?_
              refine go_goto hC 54 dX3_send_50 (by decide) ?_
              refine go_cast ?_ rfl hj54
              first | rw [cdF_1 (P := ((wM G u ∨ bC c) ∨ b < 1 ∨ ¬ b ≤ 20)) (Or.inl (tF_ne h7))] | rw [cdF_1 (P := ((wM G u ∨ bC c) ∨ b < 1 ∨ ¬ b ≤ 20)) (Or.inr (Or.inl h12))] | rw [cdF_1 (P := ((wM G u ∨ bC c) ∨ b < 1 ∨ ¬ b ≤ 20)) (Or.inr (Or.inr h18))] | rw [cdF_2 (P := ((wM G u ∨ bC c) ∨ b < 1 ∨ ¬ b ≤ 20)) (Q := (G 27 (2 * uN u + uN c) 0 = 8 ∨ G 0 28 0 = 100)) hnb (Or.inl h37)] | rw [cdF_2 (P := ((wM G u ∨ bC c) ∨ b < 1 ∨ ¬ b ≤ 20)) (Q := (G 27 (2 * uN u + uN c) 0 = 8 ∨ G 0 28 0 = 100)) hnb (Or.inr h46)] | rw [cdF_0 (P := ((wM G u ∨ bC c) ∨ b < 1 ∨ ¬ b ≤ 20)) (Q := (G 27 (2 * uN u + uN c) 0 = 8 ∨ G 0 28 0 = 100)) hnb (fun q => q.elim h37 h46)]
        ·
          refine go_iconst (v := 1) hC dX3_send_21 (by decide) ?_
          refine go_goto hC 54 dX3_send_22 (by decide) ?_
          refine go_cast ?_ rfl hj54
          first | rw [cdF_1 (P := ((wM G u ∨ bC c) ∨ b < 1 ∨ ¬ b ≤ 20)) (Or.inl (tF_ne h7))] | rw [cdF_1 (P := ((wM G u ∨ bC c) ∨ b < 1 ∨ ¬ b ≤ 20)) (Or.inr (Or.inl h12))] | rw [cdF_1 (P := ((wM G u ∨ bC c) ∨ b < 1 ∨ ¬ b ≤ 20)) (Or.inr (Or.inr h18))] | rw [cdF_2 (P := ((wM G u ∨ bC c) ∨ b < 1 ∨ ¬ b ≤ 20)) (Q := (G 27 (2 * uN u + uN c) 0 = 8 ∨ G 0 28 0 = 100)) hnb (Or.inl h37)] | rw [cdF_2 (P := ((wM G u ∨ bC c) ∨ b < 1 ∨ ¬ b ≤ 20)) (Q := (G 27 (2 * uN u + uN c) 0 = 8 ∨ G 0 28 0 = 100)) hnb (Or.inr h46)] | rw [cdF_0 (P := ((wM G u ∨ bC c) ∨ b < 1 ∨ ¬ b ≤ 20)) (Q := (G 27 (2 * uN u + uN c) 0 = 8 ∨ G 0 28 0 = 100)) hnb (fun q => q.elim h37 h46)]
def hdM (o : Nat) : Nat → gm_M → gm_M := fun k G => gm_up G 6 k 0 (G 6 k 0 + (40 * G 0 7 0 - 40 * nI o))
def dkM (G : gm_M) (o : Nat) : gm_M := if G 0 9 0 + 1 ≤ 2 then gm_up G 0 9 0 (G 0 9 0 + 1) else if G 9 o 0 = 0 then gm_up (gm_up (iter (hdM o) 5 (gm_up G 0 9 0 (G 0 9 0 + 1))) 0 7 0 (nI o)) 0 9 0 0 else gm_up G 0 9 0 (G 0 9 0 + 1)
theorem kwX3_darkFrame_3 : ∀ w ∈ wsX30, w ∈ wsX3_darkFrame := by decide +kernel
theorem lkX3_darkFrame_22 : Cond.fieldLink RX3 22 "SharedFibreModel" "hold" "[I" ∈ wsX3_darkFrame := by decide +kernel
theorem lkX3_darkFrame_29 : Cond.fieldLink RX3 29 "SharedFibreModel" "cut" "[Z" ∈ wsX3_darkFrame := by decide +kernel
theorem lkX3_darkFrame_107 : Cond.fieldLink RX3 107 "SharedFibreModel" "active" "I" ∈ wsX3_darkFrame := by decide +kernel
theorem lkX3_darkFrame_133 : Cond.fieldLink RX3 133 "SharedFibreModel" "dark" "I" ∈ wsX3_darkFrame := by decide +kernel
set_option maxHeartbeats 4000000 in
set_option maxRecDepth 100000 in
/-- the reference: X3_darkFrame -/
theorem c_X3_darkFrame (G : gm_M) (o : Nat) (ho : G 0 7 0 = nI o) (hoo : o ≤ 1) : KC lyM yX3_darkFrame wsX3_darkFrame ({ frames := 1, cells := 0, slots := 0, locals := 21 }) (fun ad => [.ref (ad 0 0)]) G (fun _ => none) (dkM G (1 - o)) := by
  refine KC.of_v (by decide) rfl rfl (fun _ => by simp) (fun _ => by simp [Value.category])  ?_
  intro X hC hR hX hE
  simp only [List.map_cons, List.map_nil, List.cons_append, List.nil_append, List.length_cons, List.length_nil, List.replicate, Nat.reduceAdd, Nat.reduceSub]
  refine go_aload_n hC dX3_darkFrame_0 rfl ?_
  refine go_dup hC dX3_darkFrame_1 rfl ?_
  refine go_geti (ci := 3) hC 9 kwX3_darkFrame_3 rfl rfl (by decide) rfl lkX3_darkFrame_133 (by first | decide | (show _ < 5; omega) | (show _ < 10; omega) | omega) dX3_darkFrame_2 ?_
  refine go_iconst (v := 1) hC dX3_darkFrame_5 (by decide) ?_
  refine go_iadd hC dX3_darkFrame_6 ?_
  refine go_puti (ci := 3) hC 9 kwX3_darkFrame_3 rfl tyX3 tyX3_ok nmX3 rfl (by decide) rfl lkX3_darkFrame_133 (by first | decide | (show _ < 5; omega) | (show _ < 10; omega) | omega) rfl rfl rfl dX3_darkFrame_7 ?_
  refine go_iconst (v := 1) hC dX3_darkFrame_10 (by decide) ?_
  refine go_aload_n hC dX3_darkFrame_11 rfl ?_
  refine go_geti (ci := 3) hC 7 kwX3_darkFrame_3 rfl rfl (by decide) rfl lkX3_darkFrame_107 (by first | decide | (show _ < 5; omega) | (show _ < 10; omega) | omega) dX3_darkFrame_12 ?_
  refine go_isub hC dX3_darkFrame_15 ?_
  rw [show (1 : Int32) - gm_up G 0 9 0 (G 0 9 0 + 1) 0 7 0 = nI (1 - o) by rw [gm_un2 (by decide), ho]; exact pk_sub (a := 1) hoo]
  refine go_istore_n hC 1 dX3_darkFrame_16 rfl (Nat.le_of_ble_eq_true rfl) ?_
  simp only [gm_s0, gm_s1]
  refine go_aload_n hC dX3_darkFrame_17 rfl ?_
  refine go_geti (ci := 3) hC 9 kwX3_darkFrame_3 rfl rfl (by decide) rfl lkX3_darkFrame_133 (by first | decide | (show _ < 5; omega) | (show _ < 10; omega) | omega) dX3_darkFrame_18 ?_
  refine go_iconst (v := 2) hC dX3_darkFrame_21 (by decide) ?_
  refine go_icmp_le hC 80 dX3_darkFrame_22 (by decide) (fun h22 => ?_) (fun h22 => ?_)
  ·
    rw [gm_us] at h22
    refine go_cast rfl ?_ (hE _ _ dX3_darkFrame_80)
    first | (rw [show dkM G (1 - o) = _ from if_pos h22]; done) | (rw [show dkM G (1 - o) = _ from if_neg h22, if_neg h31]; done) | (rw [show dkM G (1 - o) = _ from if_neg h22, if_pos h31]; done)
  ·
    rw [gm_us] at h22
    refine go_aload_n hC dX3_darkFrame_25 rfl ?_
    refine go_getr (ci := 3) hC 8 kwX3_darkFrame_3 rfl rfl (by decide) rfl lkX3_darkFrame_29 (by first | decide | (show _ < 5; omega) | (show _ < 10; omega) | omega) dX3_darkFrame_26 ?_
    refine go_iload_n hC dX3_darkFrame_29 rfl ?_
    refine go_zald hC rfl (by first | decide | (show _ < 5; omega) | (show _ < 10; omega) | omega) (gm_in rfl (by omega) (by decide)) (gm_cl rfl (by omega)) dX3_darkFrame_30 ?_
    refine go_if_ne hC 80 dX3_darkFrame_31 (by decide) (fun h31 => ?_) (fun h31 => ?_)
    ·
      rw [gm_un1 (by decide)] at h31
      refine go_cast rfl ?_ (hE _ _ dX3_darkFrame_80)
      first | (rw [show dkM G (1 - o) = _ from if_pos h22]; done) | (rw [show dkM G (1 - o) = _ from if_neg h22, if_neg h31]; done) | (rw [show dkM G (1 - o) = _ from if_neg h22, if_pos h31]; done)
    ·
      rw [gm_un1 (by decide)] at h31
      refine go_iconst (v := 0) hC dX3_darkFrame_34 (by decide) ?_
      refine go_istore_n hC 2 dX3_darkFrame_35 rfl (Nat.le_of_ble_eq_true rfl) ?_
      simp only [gm_s0, gm_s1]
      have lp36 : (fun j : Nat => GO lyM X 0 0 36 [some (.ref (gm_ad X 0 0)), some (.int (nI (1 - o))), some (.int (nI j))] [] (iter (hdM (1 - o)) j (gm_up G 0 9 0 (G 0 9 0 + 1)))) 0 := by
        refine loopN (5) (fun j : Nat => GO lyM X 0 0 36 [some (.ref (gm_ad X 0 0)), some (.int (nI (1 - o))), some (.int (nI j))] [] (iter (hdM (1 - o)) j (gm_up G 0 9 0 (G 0 9 0 + 1)))) ?_ (fun j hj ih => ?_)
        · try dsimp only
          refine go_iload_n hC dX3_darkFrame_36 rfl ?_
          refine go_iconst (v := 5) hC dX3_darkFrame_37 (by decide) ?_
          refine go_icmp_ge hC 70 dX3_darkFrame_38 (by decide) (fun h38 => ?_) (fun h38 => ?_)
          ·
            refine go_aload_n hC dX3_darkFrame_70 rfl ?_
            refine go_iload_n hC dX3_darkFrame_71 rfl ?_
            refine go_puti (ci := 3) hC 7 kwX3_darkFrame_3 rfl tyX3 tyX3_ok nmX3 rfl (by decide) rfl lkX3_darkFrame_107 (by first | decide | (show _ < 5; omega) | (show _ < 10; omega) | omega) rfl rfl rfl dX3_darkFrame_72 ?_
            refine go_aload_n hC dX3_darkFrame_75 rfl ?_
            refine go_iconst (v := 0) hC dX3_darkFrame_76 (by decide) ?_
            refine go_puti (ci := 3) hC 9 kwX3_darkFrame_3 rfl tyX3 tyX3_ok nmX3 rfl (by decide) rfl lkX3_darkFrame_133 (by first | decide | (show _ < 5; omega) | (show _ < 10; omega) | omega) rfl rfl rfl dX3_darkFrame_77 ?_
            refine go_cast rfl ?_ (hE _ _ dX3_darkFrame_80)
            first | (rw [show dkM G (1 - o) = _ from if_pos h22]; done) | (rw [show dkM G (1 - o) = _ from if_neg h22, if_neg h31]; done) | (rw [show dkM G (1 - o) = _ from if_neg h22, if_pos h31]; done)
          ·
            exact absurd (show nI 5 ≤ nI 5 from nI_le (Nat.le_refl _) (by decide)) h38
        · try dsimp only at ih ⊢
          refine go_iload_n hC dX3_darkFrame_36 rfl ?_
          refine go_iconst (v := 5) hC dX3_darkFrame_37 (by decide) ?_
          refine go_icmp_ge hC 70 dX3_darkFrame_38 (by decide) (fun h38 => ?_) (fun h38 => ?_)
          ·
            exact absurd h38 (show ¬ nI 5 ≤ nI j from nI_ge hj (by decide))
          ·
            refine go_aload_n hC dX3_darkFrame_41 rfl ?_
            refine go_getr (ci := 3) hC 5 kwX3_darkFrame_3 rfl rfl (by decide) rfl lkX3_darkFrame_22 (by first | decide | (show _ < 5; omega) | (show _ < 10; omega) | omega) dX3_darkFrame_42 ?_
            refine go_iload_n hC dX3_darkFrame_45 rfl ?_
            refine go_dup2 hC dX3_darkFrame_46 rfl rfl ?_
            refine go_iald hC rfl (by first | decide | (show _ < 5; omega) | (show _ < 10; omega) | omega) (gm_in rfl (by omega) (by decide)) (gm_cl rfl (by omega)) dX3_darkFrame_47 ?_
            refine go_aload_n hC dX3_darkFrame_48 rfl ?_
            refine go_aload_n hC dX3_darkFrame_49 rfl ?_
            refine go_geti (ci := 3) hC 7 kwX3_darkFrame_3 rfl rfl (by decide) rfl lkX3_darkFrame_107 (by first | decide | (show _ < 5; omega) | (show _ < 10; omega) | omega) dX3_darkFrame_50 ?_
            refine go_callV (n := 1) (k0 := 0) (n0 := 0) hC hX (c_X3_extra _ _) gX3_darkFrame_X3_extra rfl (by decide +kernel) ⟨rfl, rfl⟩ (by rw [hR]; exact ⟨by decide, by decide⟩) (by rw [hR]; exact ⟨by decide, by decide⟩) rfl rfl rfl (by first | decide | (show _ < 5; omega) | (show _ < 10; omega) | omega) rfl rfl rfl (Nat.le_of_ble_eq_true rfl) dX3_darkFrame_53 ?_
            simp only [gm_r0, gm_r1]
            refine go_aload_n hC dX3_darkFrame_56 rfl ?_
            refine go_iload_n hC dX3_darkFrame_57 rfl ?_
            refine go_callV (n := 1) (k0 := 0) (n0 := 0) hC hX (c_X3_extra _ _) gX3_darkFrame_X3_extra rfl (by decide +kernel) ⟨rfl, rfl⟩ (by rw [hR]; exact ⟨by decide, by decide⟩) (by rw [hR]; exact ⟨by decide, by decide⟩) rfl rfl rfl (by first | decide | (show _ < 5; omega) | (show _ < 10; omega) | omega) rfl rfl rfl (Nat.le_of_ble_eq_true rfl) dX3_darkFrame_58 ?_
            simp only [gm_r0, gm_r1]
            refine go_isub hC dX3_darkFrame_61 ?_
            refine go_iadd hC dX3_darkFrame_62 ?_
            refine go_iast hC rfl (by first | decide | (show _ < 5; omega) | (show _ < 10; omega) | omega) (gm_in rfl (by omega) (by decide)) (gm_cl rfl (by omega)) dX3_darkFrame_63 ?_
            refine go_iinc (v := 1) hC dX3_darkFrame_64 rfl (by decide) ?_
            simp only [gm_s0, gm_s1]
            refine go_goto hC 36 dX3_darkFrame_67 (by decide) ?_
            rw [nI_1]
            exact ih
      try dsimp only at lp36
      exact lp36
theorem kwX3_window_3 : ∀ w ∈ wsX30, w ∈ wsX3_window := by decide +kernel
theorem lkX3_window_13 : Cond.fieldLink RX3 13 "SharedFibreModel" "serial" "[I" ∈ wsX3_window := by decide +kernel
theorem lkX3_window_19 : Cond.fieldLink RX3 19 "SharedFibreModel" "answered" "[I" ∈ wsX3_window := by decide +kernel
set_option maxHeartbeats 4000000 in
set_option maxRecDepth 100000 in
/-- the reference: X3_window -/
theorem c_X3_window (G : gm_M) (n : Nat) (hn : n < 5) : KC lyM yX3_window wsX3_window ({ frames := 1, cells := 0, slots := 0, locals := 23 }) (fun ad => [.ref (ad 0 0), .int (nI n)]) G (fun _ => some (.int (winF (G 3 n 0) (G 5 n 0)))) (G) := by
  refine KC.of_i (by decide) rfl rfl (fun _ => by simp) (fun _ => by simp [Value.category])  ?_
  intro X hC hR hX hE
  simp only [List.map_cons, List.map_nil, List.cons_append, List.nil_append, List.length_cons, List.length_nil, List.replicate, Nat.reduceAdd, Nat.reduceSub]
  refine go_aload_n hC dX3_window_0 rfl ?_
  refine go_aload_n hC dX3_window_1 rfl ?_
  refine go_getr (ci := 3) hC 2 kwX3_window_3 rfl rfl (by decide) rfl lkX3_window_13 (by first | decide | (show _ < 5; omega) | (show _ < 10; omega) | omega) dX3_window_2 ?_
  refine go_iload_n hC dX3_window_5 rfl ?_
  refine go_iald hC rfl (by first | decide | (show _ < 5; omega) | (show _ < 10; omega) | omega) (gm_in rfl (by omega) (by decide)) (gm_cl rfl (by omega)) dX3_window_6 ?_
  refine go_aload_n hC dX3_window_7 rfl ?_
  refine go_getr (ci := 3) hC 4 kwX3_window_3 rfl rfl (by decide) rfl lkX3_window_19 (by first | decide | (show _ < 5; omega) | (show _ < 10; omega) | omega) dX3_window_8 ?_
  refine go_iload_n hC dX3_window_11 rfl ?_
  refine go_iald hC rfl (by first | decide | (show _ < 5; omega) | (show _ < 10; omega) | omega) (gm_in rfl (by omega) (by decide)) (gm_cl rfl (by omega)) dX3_window_12 ?_
  refine go_callV (n := 2) (k0 := 0) (n0 := 0) hC hX (c_X3_mix _ _ _) gX3_window_X3_mix rfl (by decide +kernel) ⟨rfl, rfl⟩ (by rw [hR]; exact ⟨by decide, by decide⟩) (by rw [hR]; exact ⟨by decide, by decide⟩) rfl rfl rfl (by first | decide | (show _ < 5; omega) | (show _ < 10; omega) | omega) rfl rfl rfl (Nat.le_of_ble_eq_true rfl) dX3_window_13 ?_
  simp only [gm_r0, gm_r1]
  refine go_iconst (v := 1) hC dX3_window_16 (by decide) ?_
  refine go_iushr hC dX3_window_17 ?_
  refine go_bipush (v := 8) hC dX3_window_18 (by decide) ?_
  refine go_irem hC dX3_window_20 (by decide) ?_
  refine go_cast ?_ ?_ (hE _ _ dX3_window_21)
  · first | rfl | (simp [*]; done) | (simp [*, gm_us, gm_un1, gm_un2]; done)
  · first | rfl | (simp [*]; done) | (simp [*, gm_us, gm_un1, gm_un2]; done)
noncomputable def lkM (G : gm_M) (n : Nat) : gm_M := tM (8 < erM G n ∨ ¬ -8 ≤ erM G n) (gm_up (gm_up (gm_up G 2 n 0 1) 5 n 0 0) 0 38 0 (G 0 38 0 + 1)) (tM (4 < erM G n ∨ ¬ -4 ≤ erM G n) (lvM G n) G)
theorem kwX3_look_3 : ∀ w ∈ wsX30, w ∈ wsX3_look := by decide +kernel
theorem lkX3_look_7 : Cond.fieldLink RX3 7 "SharedFibreModel" "state" "[I" ∈ wsX3_look := by decide +kernel
theorem lkX3_look_19 : Cond.fieldLink RX3 19 "SharedFibreModel" "answered" "[I" ∈ wsX3_look := by decide +kernel
theorem lkX3_look_149 : Cond.fieldLink RX3 149 "SharedFibreModel" "drifted" "I" ∈ wsX3_look := by decide +kernel
set_option maxHeartbeats 4000000 in
set_option maxRecDepth 100000 in
/-- the reference: X3_look -/
theorem c_X3_look (G : gm_M) (n : Nat) (hn : n < 5) : KC lyM yX3_look wsX3_look ({ frames := 2, cells := 0, slots := 0, locals := 42 }) (fun ad => [.ref (ad 0 0), .int (nI n)]) G (fun _ => none) (lkM G n) := by
  refine KC.of_v (by decide) rfl rfl (fun _ => by simp) (fun _ => by simp [Value.category])  ?_
  intro X hC hR hX hE
  simp only [List.map_cons, List.map_nil, List.cons_append, List.nil_append, List.length_cons, List.length_nil, List.replicate, Nat.reduceAdd, Nat.reduceSub]
  refine go_aload_n hC dX3_look_0 rfl ?_
  refine go_iload_n hC dX3_look_1 rfl ?_
  refine go_callV (n := 1) (k0 := 0) (n0 := 0) hC hX (c_X3_errorOf _ n hn) gX3_look_X3_errorOf rfl (by decide +kernel) ⟨rfl, rfl⟩ (by rw [hR]; exact ⟨by decide, by decide⟩) (by rw [hR]; exact ⟨by decide, by decide⟩) rfl rfl rfl (by first | decide | (show _ < 5; omega) | (show _ < 10; omega) | omega) rfl rfl rfl (Nat.le_of_ble_eq_true rfl) dX3_look_2 ?_
  simp only [gm_r0, gm_r1]
  refine go_istore_n hC 2 dX3_look_5 rfl (Nat.le_of_ble_eq_true rfl) ?_
  simp only [gm_s0, gm_s1]
  refine go_iload_n hC dX3_look_6 rfl ?_
  refine go_bipush (v := 8) hC dX3_look_7 (by decide) ?_
  refine go_icmp_gt hC 18 dX3_look_9 (by decide) (fun h9 => ?_) (fun h9 => ?_)
  ·
    refine go_aload_n hC dX3_look_18 rfl ?_
    refine go_getr (ci := 3) hC 1 kwX3_look_3 rfl rfl (by decide) rfl lkX3_look_7 (by first | decide | (show _ < 5; omega) | (show _ < 10; omega) | omega) dX3_look_19 ?_
    refine go_iload_n hC dX3_look_22 rfl ?_
    refine go_iconst (v := 1) hC dX3_look_23 (by decide) ?_
    refine go_iast hC rfl (by first | decide | (show _ < 5; omega) | (show _ < 10; omega) | omega) (gm_in rfl (by omega) (by decide)) (gm_cl rfl (by omega)) dX3_look_24 ?_
    refine go_aload_n hC dX3_look_25 rfl ?_
    refine go_getr (ci := 3) hC 4 kwX3_look_3 rfl rfl (by decide) rfl lkX3_look_19 (by first | decide | (show _ < 5; omega) | (show _ < 10; omega) | omega) dX3_look_26 ?_
    refine go_iload_n hC dX3_look_29 rfl ?_
    refine go_iconst (v := 0) hC dX3_look_30 (by decide) ?_
    refine go_iast hC rfl (by first | decide | (show _ < 5; omega) | (show _ < 10; omega) | omega) (gm_in rfl (by omega) (by decide)) (gm_cl rfl (by omega)) dX3_look_31 ?_
    refine go_aload_n hC dX3_look_32 rfl ?_
    refine go_dup hC dX3_look_33 rfl ?_
    refine go_geti (ci := 3) hC 38 kwX3_look_3 rfl rfl (by decide) rfl lkX3_look_149 (by first | decide | (show _ < 5; omega) | (show _ < 10; omega) | omega) dX3_look_34 ?_
    refine go_iconst (v := 1) hC dX3_look_37 (by decide) ?_
    refine go_iadd hC dX3_look_38 ?_
    refine go_puti (ci := 3) hC 38 kwX3_look_3 rfl tyX3 tyX3_ok nmX3 rfl (by decide) rfl lkX3_look_149 (by first | decide | (show _ < 5; omega) | (show _ < 10; omega) | omega) rfl rfl rfl dX3_look_39 ?_
    refine go_goto hC 61 dX3_look_42 (by decide) ?_
    refine go_cast rfl ?_ (hE _ _ dX3_look_61)
    first | (rw [show lkM G n = _ from tM_t (P := 8 < erM G n ∨ ¬ -8 ≤ erM G n) (Or.inl h9), gm_un1 (by decide), gm_un1 (by decide)]; done) | (rw [show lkM G n = _ from tM_t (P := 8 < erM G n ∨ ¬ -8 ≤ erM G n) (Or.inr h15), gm_un1 (by decide), gm_un1 (by decide)]; done) | (rw [show lkM G n = _ from tM_f (P := 8 < erM G n ∨ ¬ -8 ≤ erM G n) (fun q => q.elim h9 (fun q => q h15)), tM_t (P := 4 < erM G n ∨ ¬ -4 ≤ erM G n) (Or.inl h47)]; done) | (rw [show lkM G n = _ from tM_f (P := 8 < erM G n ∨ ¬ -8 ≤ erM G n) (fun q => q.elim h9 (fun q => q h15)), tM_t (P := 4 < erM G n ∨ ¬ -4 ≤ erM G n) (Or.inr h53)]; done) | (rw [show lkM G n = _ from tM_f (P := 8 < erM G n ∨ ¬ -8 ≤ erM G n) (fun q => q.elim h9 (fun q => q h15)), tM_f (P := 4 < erM G n ∨ ¬ -4 ≤ erM G n) (fun q => q.elim h47 (fun q => q h53))]; done)
  ·
    refine go_iload_n hC dX3_look_12 rfl ?_
    refine go_bipush (v := (-8)) hC dX3_look_13 (by decide) ?_
    refine go_icmp_ge hC 45 dX3_look_15 (by decide) (fun h15 => ?_) (fun h15 => ?_)
    ·
      refine go_iload_n hC dX3_look_45 rfl ?_
      refine go_iconst (v := 4) hC dX3_look_46 (by decide) ?_
      refine go_icmp_gt hC 56 dX3_look_47 (by decide) (fun h47 => ?_) (fun h47 => ?_)
      ·
        refine go_aload_n hC dX3_look_56 rfl ?_
        refine go_iload_n hC dX3_look_57 rfl ?_
        refine go_callV (n := 1) (k0 := 0) (n0 := 0) hC hX (c_X3_level _ n hn) gX3_look_X3_level rfl (by decide +kernel) ⟨rfl, rfl⟩ (by rw [hR]; exact ⟨by decide, by decide⟩) (by rw [hR]; exact ⟨by decide, by decide⟩) rfl rfl rfl (by first | decide | (show _ < 5; omega) | (show _ < 10; omega) | omega) rfl rfl rfl (Nat.le_of_ble_eq_true rfl) dX3_look_58 ?_
        simp only [gm_r0, gm_r1]
        refine go_cast rfl ?_ (hE _ _ dX3_look_61)
        first | (rw [show lkM G n = _ from tM_t (P := 8 < erM G n ∨ ¬ -8 ≤ erM G n) (Or.inl h9), gm_un1 (by decide), gm_un1 (by decide)]; done) | (rw [show lkM G n = _ from tM_t (P := 8 < erM G n ∨ ¬ -8 ≤ erM G n) (Or.inr h15), gm_un1 (by decide), gm_un1 (by decide)]; done) | (rw [show lkM G n = _ from tM_f (P := 8 < erM G n ∨ ¬ -8 ≤ erM G n) (fun q => q.elim h9 (fun q => q h15)), tM_t (P := 4 < erM G n ∨ ¬ -4 ≤ erM G n) (Or.inl h47)]; done) | (rw [show lkM G n = _ from tM_f (P := 8 < erM G n ∨ ¬ -8 ≤ erM G n) (fun q => q.elim h9 (fun q => q h15)), tM_t (P := 4 < erM G n ∨ ¬ -4 ≤ erM G n) (Or.inr h53)]; done) | (rw [show lkM G n = _ from tM_f (P := 8 < erM G n ∨ ¬ -8 ≤ erM G n) (fun q => q.elim h9 (fun q => q h15)), tM_f (P := 4 < erM G n ∨ ¬ -4 ≤ erM G n) (fun q => q.elim h47 (fun q => q h53))]; done)
      ·
        refine go_iload_n hC dX3_look_50 rfl ?_
        refine go_bipush (v := (-4)) hC dX3_look_51 (by decide) ?_
        refine go_icmp_ge hC 61 dX3_look_53 (by decide) (fun h53 => ?_) (fun h53 => ?_)
        ·
          refine go_cast rfl ?_ (hE _ _ dX3_look_61)
          first | (rw [show lkM G n = _ from tM_t (P := 8 < erM G n ∨ ¬ -8 ≤ erM G n) (Or.inl h9), gm_un1 (by decide), gm_un1 (by decide)]; done) | (rw [show lkM G n = _ from tM_t (P := 8 < erM G n ∨ ¬ -8 ≤ erM G n) (Or.inr h15), gm_un1 (by decide), gm_un1 (by decide)]; done) | (rw [show lkM G n = _ from tM_f (P := 8 < erM G n ∨ ¬ -8 ≤ erM G n) (fun q => q.elim h9 (fun q => q h15)), tM_t (P := 4 < erM G n ∨ ¬ -4 ≤ erM G n) (Or.inl h47)]; done) | (rw [show lkM G n = _ from tM_f (P := 8 < erM G n ∨ ¬ -8 ≤ erM G n) (fun q => q.elim h9 (fun q => q h15)), tM_t (P := 4 < erM G n ∨ ¬ -4 ≤ erM G n) (Or.inr h53)]; done) | (rw [show lkM G n = _ from tM_f (P := 8 < erM G n ∨ ¬ -8 ≤ erM G n) (fun q => q.elim h9 (fun q => q h15)), tM_f (P := 4 < erM G n ∨ ¬ -4 ≤ erM G n) (fun q => q.elim h47 (fun q => q h53))]; done)
        ·
          refine go_aload_n hC dX3_look_56 rfl ?_
          refine go_iload_n hC dX3_look_57 rfl ?_
          refine go_callV (n := 1) (k0 := 0) (n0 := 0) hC hX (c_X3_level _ n hn) gX3_look_X3_level rfl (by decide +kernel) ⟨rfl, rfl⟩ (by rw [hR]; exact ⟨by decide, by decide⟩) (by rw [hR]; exact ⟨by decide, by decide⟩) rfl rfl rfl (by first | decide | (show _ < 5; omega) | (show _ < 10; omega) | omega) rfl rfl rfl (Nat.le_of_ble_eq_true rfl) dX3_look_58 ?_
          simp only [gm_r0, gm_r1]
          refine go_cast rfl ?_ (hE _ _ dX3_look_61)
          first | (rw [show lkM G n = _ from tM_t (P := 8 < erM G n ∨ ¬ -8 ≤ erM G n) (Or.inl h9), gm_un1 (by decide), gm_un1 (by decide)]; done) | (rw [show lkM G n = _ from tM_t (P := 8 < erM G n ∨ ¬ -8 ≤ erM G n) (Or.inr h15), gm_un1 (by decide), gm_un1 (by decide)]; done) | (rw [show lkM G n = _ from tM_f (P := 8 < erM G n ∨ ¬ -8 ≤ erM G n) (fun q => q.elim h9 (fun q => q h15)), tM_t (P := 4 < erM G n ∨ ¬ -4 ≤ erM G n) (Or.inl h47)]; done) | (rw [show lkM G n = _ from tM_f (P := 8 < erM G n ∨ ¬ -8 ≤ erM G n) (fun q => q.elim h9 (fun q => q h15)), tM_t (P := 4 < erM G n ∨ ¬ -4 ≤ erM G n) (Or.inr h53)]; done) | (rw [show lkM G n = _ from tM_f (P := 8 < erM G n ∨ ¬ -8 ≤ erM G n) (fun q => q.elim h9 (fun q => q h15)), tM_f (P := 4 < erM G n ∨ ¬ -4 ≤ erM G n) (fun q => q.elim h47 (fun q => q h53))]; done)
    ·
      refine go_aload_n hC dX3_look_18 rfl ?_
      refine go_getr (ci := 3) hC 1 kwX3_look_3 rfl rfl (by decide) rfl lkX3_look_7 (by first | decide | (show _ < 5; omega) | (show _ < 10; omega) | omega) dX3_look_19 ?_
      refine go_iload_n hC dX3_look_22 rfl ?_
      refine go_iconst (v := 1) hC dX3_look_23 (by decide) ?_
      refine go_iast hC rfl (by first | decide | (show _ < 5; omega) | (show _ < 10; omega) | omega) (gm_in rfl (by omega) (by decide)) (gm_cl rfl (by omega)) dX3_look_24 ?_
      refine go_aload_n hC dX3_look_25 rfl ?_
      refine go_getr (ci := 3) hC 4 kwX3_look_3 rfl rfl (by decide) rfl lkX3_look_19 (by first | decide | (show _ < 5; omega) | (show _ < 10; omega) | omega) dX3_look_26 ?_
      refine go_iload_n hC dX3_look_29 rfl ?_
      refine go_iconst (v := 0) hC dX3_look_30 (by decide) ?_
      refine go_iast hC rfl (by first | decide | (show _ < 5; omega) | (show _ < 10; omega) | omega) (gm_in rfl (by omega) (by decide)) (gm_cl rfl (by omega)) dX3_look_31 ?_
      refine go_aload_n hC dX3_look_32 rfl ?_
      refine go_dup hC dX3_look_33 rfl ?_
      refine go_geti (ci := 3) hC 38 kwX3_look_3 rfl rfl (by decide) rfl lkX3_look_149 (by first | decide | (show _ < 5; omega) | (show _ < 10; omega) | omega) dX3_look_34 ?_
      refine go_iconst (v := 1) hC dX3_look_37 (by decide) ?_
      refine go_iadd hC dX3_look_38 ?_
      refine go_puti (ci := 3) hC 38 kwX3_look_3 rfl tyX3 tyX3_ok nmX3 rfl (by decide) rfl lkX3_look_149 (by first | decide | (show _ < 5; omega) | (show _ < 10; omega) | omega) rfl rfl rfl dX3_look_39 ?_
      refine go_goto hC 61 dX3_look_42 (by decide) ?_
      refine go_cast rfl ?_ (hE _ _ dX3_look_61)
      first | (rw [show lkM G n = _ from tM_t (P := 8 < erM G n ∨ ¬ -8 ≤ erM G n) (Or.inl h9), gm_un1 (by decide), gm_un1 (by decide)]; done) | (rw [show lkM G n = _ from tM_t (P := 8 < erM G n ∨ ¬ -8 ≤ erM G n) (Or.inr h15), gm_un1 (by decide), gm_un1 (by decide)]; done) | (rw [show lkM G n = _ from tM_f (P := 8 < erM G n ∨ ¬ -8 ≤ erM G n) (fun q => q.elim h9 (fun q => q h15)), tM_t (P := 4 < erM G n ∨ ¬ -4 ≤ erM G n) (Or.inl h47)]; done) | (rw [show lkM G n = _ from tM_f (P := 8 < erM G n ∨ ¬ -8 ≤ erM G n) (fun q => q.elim h9 (fun q => q h15)), tM_t (P := 4 < erM G n ∨ ¬ -4 ≤ erM G n) (Or.inr h53)]; done) | (rw [show lkM G n = _ from tM_f (P := 8 < erM G n ∨ ¬ -8 ≤ erM G n) (fun q => q.elim h9 (fun q => q h15)), tM_f (P := 4 < erM G n ∨ ¬ -4 ≤ erM G n) (fun q => q.elim h47 (fun q => q h53))]; done)
abbrev nWm (G : gm_M) (c : Nat) : Prop := G 2 (c / 2) 0 = 2 ∧ ¬ G 22 c 0 ≤ G 25 c 0 ∧ ¬ G 24 c 0 ≤ G 25 c 0
theorem half (c : Nat) (h : c < 2 ^ 31) : nI c / 2 = nI (c / 2) := pk_div (d := 2) h (by decide) (by decide)
theorem kwX3_wants_3 : ∀ w ∈ wsX30, w ∈ wsX3_wants := by decide +kernel
theorem lkX3_wants_7 : Cond.fieldLink RX3 7 "SharedFibreModel" "state" "[I" ∈ wsX3_wants := by decide +kernel
theorem lkX3_wants_59 : Cond.fieldLink RX3 59 "SharedFibreModel" "most" "[I" ∈ wsX3_wants := by decide +kernel
theorem lkX3_wants_65 : Cond.fieldLink RX3 65 "SharedFibreModel" "reported" "[I" ∈ wsX3_wants := by decide +kernel
theorem lkX3_wants_68 : Cond.fieldLink RX3 68 "SharedFibreModel" "given" "[I" ∈ wsX3_wants := by decide +kernel
set_option maxHeartbeats 4000000 in
set_option maxRecDepth 100000 in
/-- the reference: X3_wants -/
theorem c_X3_wants (G : gm_M) (n : Nat) (hn : n < 10) : KC lyM yX3_wants wsX3_wants ({ frames := 0, cells := 0, slots := 0, locals := 0 }) (fun ad => [.ref (ad 0 0), .int (nI n)]) G (fun _ => some (.int (tF (nWm G n)))) (G) := by
  refine KC.of_z (by decide) rfl rfl (fun _ => by simp) (fun _ => by simp [Value.category]) (tF_n _) ?_
  intro X hC hR hX hE
  simp only [List.map_cons, List.map_nil, List.cons_append, List.nil_append, List.length_cons, List.length_nil, List.replicate, Nat.reduceAdd, Nat.reduceSub]
  refine go_aload_n hC dX3_wants_0 rfl ?_
  refine go_getr (ci := 3) hC 1 kwX3_wants_3 rfl rfl (by decide) rfl lkX3_wants_7 (by first | decide | (show _ < 5; omega) | (show _ < 10; omega) | omega) dX3_wants_1 ?_
  refine go_iload_n hC dX3_wants_4 rfl ?_
  refine go_iconst (v := 2) hC dX3_wants_5 (by decide) ?_
  refine go_idiv hC dX3_wants_6 (by decide) ?_
  refine go_iald hC rfl (by first | decide | (show _ < 5; omega) | (show _ < 10; omega) | omega) (gm_in (half n (by omega)) (by omega) (by decide)) (gm_cl (half n (by omega)) (by omega)) dX3_wants_7 ?_
  refine go_iconst (v := 2) hC dX3_wants_8 (by decide) ?_
  refine go_icmp_ne hC 46 dX3_wants_9 (by decide) (fun h9 => ?_) (fun h9 => ?_)
  ·
    refine go_iconst (v := 0) hC dX3_wants_46 (by decide) ?_
    refine go_cast ?_ rfl (hE _ _ dX3_wants_47)
    first | rw [tF_t (P := nWm G n) ⟨h9, h24, h39⟩] | rw [tF_f (P := nWm G n) (fun q => q.2.2 h39)] | rw [tF_f (P := nWm G n) (fun q => q.2.1 h24)] | rw [tF_f (P := nWm G n) (fun q => h9 q.1)]
  ·
    refine go_aload_n hC dX3_wants_12 rfl ?_
    refine go_getr (ci := 3) hC 24 kwX3_wants_3 rfl rfl (by decide) rfl lkX3_wants_68 (by first | decide | (show _ < 5; omega) | (show _ < 10; omega) | omega) dX3_wants_13 ?_
    refine go_iload_n hC dX3_wants_16 rfl ?_
    refine go_iald hC rfl (by first | decide | (show _ < 5; omega) | (show _ < 10; omega) | omega) (gm_in rfl (by omega) (by decide)) (gm_cl rfl (by omega)) dX3_wants_17 ?_
    refine go_aload_n hC dX3_wants_18 rfl ?_
    refine go_getr (ci := 3) hC 21 kwX3_wants_3 rfl rfl (by decide) rfl lkX3_wants_59 (by first | decide | (show _ < 5; omega) | (show _ < 10; omega) | omega) dX3_wants_19 ?_
    refine go_iload_n hC dX3_wants_22 rfl ?_
    refine go_iald hC rfl (by first | decide | (show _ < 5; omega) | (show _ < 10; omega) | omega) (gm_in rfl (by omega) (by decide)) (gm_cl rfl (by omega)) dX3_wants_23 ?_
    refine go_icmp_ge hC 46 dX3_wants_24 (by decide) (fun h24 => ?_) (fun h24 => ?_)
    ·
      refine go_iconst (v := 0) hC dX3_wants_46 (by decide) ?_
      refine go_cast ?_ rfl (hE _ _ dX3_wants_47)
      first | rw [tF_t (P := nWm G n) ⟨h9, h24, h39⟩] | rw [tF_f (P := nWm G n) (fun q => q.2.2 h39)] | rw [tF_f (P := nWm G n) (fun q => q.2.1 h24)] | rw [tF_f (P := nWm G n) (fun q => h9 q.1)]
    ·
      refine go_aload_n hC dX3_wants_27 rfl ?_
      refine go_getr (ci := 3) hC 24 kwX3_wants_3 rfl rfl (by decide) rfl lkX3_wants_68 (by first | decide | (show _ < 5; omega) | (show _ < 10; omega) | omega) dX3_wants_28 ?_
      refine go_iload_n hC dX3_wants_31 rfl ?_
      refine go_iald hC rfl (by first | decide | (show _ < 5; omega) | (show _ < 10; omega) | omega) (gm_in rfl (by omega) (by decide)) (gm_cl rfl (by omega)) dX3_wants_32 ?_
      refine go_aload_n hC dX3_wants_33 rfl ?_
      refine go_getr (ci := 3) hC 23 kwX3_wants_3 rfl rfl (by decide) rfl lkX3_wants_65 (by first | decide | (show _ < 5; omega) | (show _ < 10; omega) | omega) dX3_wants_34 ?_
      refine go_iload_n hC dX3_wants_37 rfl ?_
      refine go_iald hC rfl (by first | decide | (show _ < 5; omega) | (show _ < 10; omega) | omega) (gm_in rfl (by omega) (by decide)) (gm_cl rfl (by omega)) dX3_wants_38 ?_
      refine go_icmp_ge hC 46 dX3_wants_39 (by decide) (fun h39 => ?_) (fun h39 => ?_)
      ·
        refine go_iconst (v := 0) hC dX3_wants_46 (by decide) ?_
        refine go_cast ?_ rfl (hE _ _ dX3_wants_47)
        first | rw [tF_t (P := nWm G n) ⟨h9, h24, h39⟩] | rw [tF_f (P := nWm G n) (fun q => q.2.2 h39)] | rw [tF_f (P := nWm G n) (fun q => q.2.1 h24)] | rw [tF_f (P := nWm G n) (fun q => h9 q.1)]
      ·
        refine go_iconst (v := 1) hC dX3_wants_42 (by decide) ?_
        refine go_goto hC 47 dX3_wants_43 (by decide) ?_
        refine go_cast ?_ rfl (hE _ _ dX3_wants_47)
        first | rw [tF_t (P := nWm G n) ⟨h9, h24, h39⟩] | rw [tF_f (P := nWm G n) (fun q => q.2.2 h39)] | rw [tF_f (P := nWm G n) (fun q => q.2.1 h24)] | rw [tF_f (P := nWm G n) (fun q => h9 q.1)]
theorem kwX3_loadOf_3 : ∀ w ∈ wsX30, w ∈ wsX3_loadOf := by decide +kernel
theorem lkX3_loadOf_74 : Cond.fieldLink RX3 74 "SharedFibreModel" "queued" "[I" ∈ wsX3_loadOf := by decide +kernel
theorem lkX3_loadOf_77 : Cond.fieldLink RX3 77 "SharedFibreModel" "queue" "[I" ∈ wsX3_loadOf := by decide +kernel
theorem lkX3_loadOf_80 : Cond.fieldLink RX3 80 "SharedFibreModel" "left" "[I" ∈ wsX3_loadOf := by decide +kernel
set_option maxHeartbeats 4000000 in
set_option maxRecDepth 100000 in
/-- the reference: X3_loadOf -/
theorem c_X3_loadOf (G : gm_M) (n q : Nat) (hn : n < 10) (hq : G 27 n 0 = nI q) (h8 : q ≤ 8) (hd : ∀ k, k < q → G 28 (8 * n + k) 0 = nI (uN (G 28 (8 * n + k) 0)) ∧ uN (G 28 (8 * n + k) 0) < 100) : KC lyM yX3_loadOf wsX3_loadOf ({ frames := 0, cells := 0, slots := 0, locals := 0 }) (fun ad => [.ref (ad 0 0), .int (nI n)]) G (fun _ => some (.int (bx_sum (fun k => G 30 (uN (G 28 (8 * n + k) 0)) 0) q))) (G) := by
  refine KC.of_i (by decide) rfl rfl (fun _ => by simp) (fun _ => by simp [Value.category])  ?_
  intro X hC hR hX hE
  simp only [List.map_cons, List.map_nil, List.cons_append, List.nil_append, List.length_cons, List.length_nil, List.replicate, Nat.reduceAdd, Nat.reduceSub]
  have lp4 : (fun j : Nat => GO lyM X 0 0 4 [some (.ref (gm_ad X 0 0)), some (.int (nI n)), some (.int (bx_sum (fun k => G 30 (uN (G 28 (8 * n + k) 0)) 0) j)), some (.int (nI j))] [] G) 0 := by
    refine loopN (q) (fun j : Nat => GO lyM X 0 0 4 [some (.ref (gm_ad X 0 0)), some (.int (nI n)), some (.int (bx_sum (fun k => G 30 (uN (G 28 (8 * n + k) 0)) 0) j)), some (.int (nI j))] [] G) ?_ (fun j hj ih => ?_)
    · try dsimp only
      refine go_iload_n hC dX3_loadOf_4 rfl ?_
      refine go_aload_n hC dX3_loadOf_5 rfl ?_
      refine go_getr (ci := 3) hC 26 kwX3_loadOf_3 rfl rfl (by decide) rfl lkX3_loadOf_74 (by first | decide | (show _ < 5; omega) | (show _ < 10; omega) | omega) dX3_loadOf_6 ?_
      refine go_iload_n hC dX3_loadOf_9 rfl ?_
      refine go_iald hC rfl (by first | decide | (show _ < 5; omega) | (show _ < 10; omega) | omega) (gm_in rfl (by omega) (by decide)) (gm_cl rfl (by omega)) dX3_loadOf_10 ?_
      refine go_icmp_ge hC 39 dX3_loadOf_11 (by decide) (fun h11 => ?_) (fun h11 => ?_)
      ·
        refine go_iload_n hC dX3_loadOf_39 rfl ?_
        refine go_cast ?_ ?_ (hE _ _ dX3_loadOf_40)
        · first | rfl | (simp [*]; done) | (simp [*, gm_us, gm_un1, gm_un2]; done)
        · first | rfl | (simp [*]; done) | (simp [*, gm_us, gm_un1, gm_un2]; done)
      ·
        exact absurd (by rw [hq]; exact nI_le (Nat.le_refl _) (by omega)) h11
    · try dsimp only at ih ⊢
      refine go_iload_n hC dX3_loadOf_4 rfl ?_
      refine go_aload_n hC dX3_loadOf_5 rfl ?_
      refine go_getr (ci := 3) hC 26 kwX3_loadOf_3 rfl rfl (by decide) rfl lkX3_loadOf_74 (by first | decide | (show _ < 5; omega) | (show _ < 10; omega) | omega) dX3_loadOf_6 ?_
      refine go_iload_n hC dX3_loadOf_9 rfl ?_
      refine go_iald hC rfl (by first | decide | (show _ < 5; omega) | (show _ < 10; omega) | omega) (gm_in rfl (by omega) (by decide)) (gm_cl rfl (by omega)) dX3_loadOf_10 ?_
      refine go_icmp_ge hC 39 dX3_loadOf_11 (by decide) (fun h11 => ?_) (fun h11 => ?_)
      ·
        exact absurd h11 (by rw [hq]; exact nI_ge hj (by omega))
      ·
        refine go_iload_n hC dX3_loadOf_14 rfl ?_
        refine go_aload_n hC dX3_loadOf_15 rfl ?_
        refine go_getr (ci := 3) hC 29 kwX3_loadOf_3 rfl rfl (by decide) rfl lkX3_loadOf_80 (by first | decide | (show _ < 5; omega) | (show _ < 10; omega) | omega) dX3_loadOf_16 ?_
        refine go_aload_n hC dX3_loadOf_19 rfl ?_
        refine go_getr (ci := 3) hC 27 kwX3_loadOf_3 rfl rfl (by decide) rfl lkX3_loadOf_77 (by first | decide | (show _ < 5; omega) | (show _ < 10; omega) | omega) dX3_loadOf_20 ?_
        refine go_bipush (v := 8) hC dX3_loadOf_23 (by decide) ?_
        refine go_iload_n hC dX3_loadOf_25 rfl ?_
        refine go_imul hC dX3_loadOf_26 ?_
        refine go_iload_n hC dX3_loadOf_27 rfl ?_
        refine go_iadd hC dX3_loadOf_28 ?_
        refine go_iald hC rfl (by first | decide | (show _ < 5; omega) | (show _ < 10; omega) | omega) (gm_in (n := 8 * n + j) (show (8 : Int32) * nI n + nI j = nI (8 * n + j) by rw [← nI_add]; congr 1; exact pk_mul 8 n) (by omega) (by decide)) (gm_cl (n := 8 * n + j) (show (8 : Int32) * nI n + nI j = nI (8 * n + j) by rw [← nI_add]; congr 1; exact pk_mul 8 n) (by omega)) dX3_loadOf_29 ?_
        have hd9 := (hd j hj).2
        refine go_iald hC rfl (by first | decide | (show _ < 5; omega) | (show _ < 10; omega) | omega) (gm_in (hd j hj).1 (by omega) (by decide)) (gm_cl (hd j hj).1 (by omega)) dX3_loadOf_30 ?_
        refine go_iadd hC dX3_loadOf_31 ?_
        refine go_istore_n hC 2 dX3_loadOf_32 rfl (Nat.le_of_ble_eq_true rfl) ?_
        simp only [gm_s0, gm_s1]
        refine go_iinc (v := 1) hC dX3_loadOf_33 rfl (by decide) ?_
        simp only [gm_s0, gm_s1]
        refine go_goto hC 4 dX3_loadOf_36 (by decide) ?_
        rw [nI_1]
        exact ih
  try dsimp only at lp4
  refine go_iconst (v := 0) hC dX3_loadOf_0 (by decide) ?_
  refine go_istore_n hC 2 dX3_loadOf_1 rfl (Nat.le_of_ble_eq_true rfl) ?_
  simp only [gm_s0, gm_s1]
  refine go_iconst (v := 0) hC dX3_loadOf_2 (by decide) ?_
  refine go_istore_n hC 3 dX3_loadOf_3 rfl (Nat.le_of_ble_eq_true rfl) ?_
  simp only [gm_s0, gm_s1]
  exact lp4
def lqM (n : Nat) : Nat → gm_M → gm_M := fun k G => gm_up G 28 (8 * n + k) 0 (G 28 (8 * n + k + 1) 0)
def leM (G : gm_M) (n q : Nat) : gm_M := iter (lqM n) q (gm_up G 27 n 0 (G 27 n 0 - 1))
theorem lqM_q {G : gm_M} {n m : Nat} {x : Int32} (h : G 27 m 0 = x) (j : Nat) : iter (lqM n) j G 27 m 0 = x := iter_inv (P := fun G => G 27 m 0 = x) (fun k G h => by simp only [lqM]; rw [gm_un1 (by decide)]; exact h) h j
theorem kwX3_leave_3 : ∀ w ∈ wsX30, w ∈ wsX3_leave := by decide +kernel
theorem lkX3_leave_74 : Cond.fieldLink RX3 74 "SharedFibreModel" "queued" "[I" ∈ wsX3_leave := by decide +kernel
theorem lkX3_leave_77 : Cond.fieldLink RX3 77 "SharedFibreModel" "queue" "[I" ∈ wsX3_leave := by decide +kernel
set_option maxHeartbeats 4000000 in
set_option maxRecDepth 100000 in
/-- the reference: X3_leave -/
theorem c_X3_leave (G : gm_M) (n q : Nat) (hn : n < 10) (hq : G 27 n 0 = nI (q + 1)) (h8 : q < 8) : KC lyM yX3_leave wsX3_leave ({ frames := 0, cells := 0, slots := 0, locals := 0 }) (fun ad => [.ref (ad 0 0), .int (nI n)]) G (fun _ => none) (leM G n q) := by
  refine KC.of_v (by decide) rfl rfl (fun _ => by simp) (fun _ => by simp [Value.category])  ?_
  intro X hC hR hX hE
  simp only [List.map_cons, List.map_nil, List.cons_append, List.nil_append, List.length_cons, List.length_nil, List.replicate, Nat.reduceAdd, Nat.reduceSub]
  have hq2 : ∀ j, iter (lqM n) j (gm_up G 27 n 0 (G 27 n 0 - 1)) 27 n 0 = nI q := lqM_q (by rw [gm_us, hq]; exact nI_pred q)
  have lp12 : (fun j : Nat => GO lyM X 0 0 12 [some (.ref (gm_ad X 0 0)), some (.int (nI n)), some (.int (nI j))] [] (iter (lqM n) j (gm_up G 27 n 0 (G 27 n 0 - 1)))) 0 := by
    refine loopN (q) (fun j : Nat => GO lyM X 0 0 12 [some (.ref (gm_ad X 0 0)), some (.int (nI n)), some (.int (nI j))] [] (iter (lqM n) j (gm_up G 27 n 0 (G 27 n 0 - 1)))) ?_ (fun j hj ih => ?_)
    · try dsimp only
      refine go_iload_n hC dX3_leave_12 rfl ?_
      refine go_aload_n hC dX3_leave_13 rfl ?_
      refine go_getr (ci := 3) hC 26 kwX3_leave_3 rfl rfl (by decide) rfl lkX3_leave_74 (by first | decide | (show _ < 5; omega) | (show _ < 10; omega) | omega) dX3_leave_14 ?_
      refine go_iload_n hC dX3_leave_17 rfl ?_
      refine go_iald hC rfl (by first | decide | (show _ < 5; omega) | (show _ < 10; omega) | omega) (gm_in rfl (by omega) (by decide)) (gm_cl rfl (by omega)) dX3_leave_18 ?_
      refine go_icmp_ge hC 52 dX3_leave_19 (by decide) (fun h19 => ?_) (fun h19 => ?_)
      ·
        refine go_cast ?_ ?_ (hE _ _ dX3_leave_52)
        · first | rfl | (simp [*]; done) | (simp [*, gm_us, gm_un1, gm_un2]; done)
        · first | rfl | (simp [*]; done) | (simp [*, gm_us, gm_un1, gm_un2]; done)
      ·
        exact absurd (by rw [hq2 q]; exact nI_le (Nat.le_refl _) (by omega)) h19
    · try dsimp only at ih ⊢
      refine go_iload_n hC dX3_leave_12 rfl ?_
      refine go_aload_n hC dX3_leave_13 rfl ?_
      refine go_getr (ci := 3) hC 26 kwX3_leave_3 rfl rfl (by decide) rfl lkX3_leave_74 (by first | decide | (show _ < 5; omega) | (show _ < 10; omega) | omega) dX3_leave_14 ?_
      refine go_iload_n hC dX3_leave_17 rfl ?_
      refine go_iald hC rfl (by first | decide | (show _ < 5; omega) | (show _ < 10; omega) | omega) (gm_in rfl (by omega) (by decide)) (gm_cl rfl (by omega)) dX3_leave_18 ?_
      refine go_icmp_ge hC 52 dX3_leave_19 (by decide) (fun h19 => ?_) (fun h19 => ?_)
      ·
        exact absurd h19 (by rw [hq2 j]; exact nI_ge hj (by omega))
      ·
        refine go_aload_n hC dX3_leave_22 rfl ?_
        refine go_getr (ci := 3) hC 27 kwX3_leave_3 rfl rfl (by decide) rfl lkX3_leave_77 (by first | decide | (show _ < 5; omega) | (show _ < 10; omega) | omega) dX3_leave_23 ?_
        refine go_bipush (v := 8) hC dX3_leave_26 (by decide) ?_
        refine go_iload_n hC dX3_leave_28 rfl ?_
        refine go_imul hC dX3_leave_29 ?_
        refine go_iload_n hC dX3_leave_30 rfl ?_
        refine go_iadd hC dX3_leave_31 ?_
        refine go_aload_n hC dX3_leave_32 rfl ?_
        refine go_getr (ci := 3) hC 27 kwX3_leave_3 rfl rfl (by decide) rfl lkX3_leave_77 (by first | decide | (show _ < 5; omega) | (show _ < 10; omega) | omega) dX3_leave_33 ?_
        refine go_bipush (v := 8) hC dX3_leave_36 (by decide) ?_
        refine go_iload_n hC dX3_leave_38 rfl ?_
        refine go_imul hC dX3_leave_39 ?_
        refine go_iload_n hC dX3_leave_40 rfl ?_
        refine go_iadd hC dX3_leave_41 ?_
        refine go_iconst (v := 1) hC dX3_leave_42 (by decide) ?_
        refine go_iadd hC dX3_leave_43 ?_
        refine go_iald hC rfl (by first | decide | (show _ < 5; omega) | (show _ < 10; omega) | omega) (gm_in (n := 8 * n + j + 1) (show (8 : Int32) * nI n + nI j + 1 = nI (8 * n + j + 1) by rw [← nI_1, ← nI_add]; congr 2; exact pk_mul 8 n) (by omega) (by decide)) (gm_cl (n := 8 * n + j + 1) (show (8 : Int32) * nI n + nI j + 1 = nI (8 * n + j + 1) by rw [← nI_1, ← nI_add]; congr 2; exact pk_mul 8 n) (by omega)) dX3_leave_44 ?_
        refine go_iast hC rfl (by first | decide | (show _ < 5; omega) | (show _ < 10; omega) | omega) (gm_in (n := 8 * n + j) (show (8 : Int32) * nI n + nI j = nI (8 * n + j) by rw [← nI_add]; congr 1; exact pk_mul 8 n) (by omega) (by decide)) (gm_cl (n := 8 * n + j) (show (8 : Int32) * nI n + nI j = nI (8 * n + j) by rw [← nI_add]; congr 1; exact pk_mul 8 n) (by omega)) dX3_leave_45 ?_
        refine go_iinc (v := 1) hC dX3_leave_46 rfl (by decide) ?_
        simp only [gm_s0, gm_s1]
        refine go_goto hC 12 dX3_leave_49 (by decide) ?_
        rw [nI_1]
        exact ih
  try dsimp only at lp12
  refine go_aload_n hC dX3_leave_0 rfl ?_
  refine go_getr (ci := 3) hC 26 kwX3_leave_3 rfl rfl (by decide) rfl lkX3_leave_74 (by first | decide | (show _ < 5; omega) | (show _ < 10; omega) | omega) dX3_leave_1 ?_
  refine go_iload_n hC dX3_leave_4 rfl ?_
  refine go_dup2 hC dX3_leave_5 rfl rfl ?_
  refine go_iald hC rfl (by first | decide | (show _ < 5; omega) | (show _ < 10; omega) | omega) (gm_in rfl (by omega) (by decide)) (gm_cl rfl (by omega)) dX3_leave_6 ?_
  refine go_iconst (v := 1) hC dX3_leave_7 (by decide) ?_
  refine go_isub hC dX3_leave_8 ?_
  refine go_iast hC rfl (by first | decide | (show _ < 5; omega) | (show _ < 10; omega) | omega) (gm_in rfl (by omega) (by decide)) (gm_cl rfl (by omega)) dX3_leave_9 ?_
  refine go_iconst (v := 0) hC dX3_leave_10 (by decide) ?_
  refine go_istore_n hC 2 dX3_leave_11 rfl (Nat.le_of_ble_eq_true rfl) ?_
  simp only [gm_s0, gm_s1]
  exact lp12
def ky1 (G : gm_M) (n : Nat) : gm_M := if G 16 n 0 = 0 then G else gm_up (gm_up (gm_up G 19 n 0 (G 17 n 0 ^^^ mixF (G 13 n 0) (G 0 11 0))) 18 n 0 (G 17 n 0)) 16 n 0 0
def ky2 (G : gm_M) (n : Nat) : gm_M := if G 14 n 0 < 0 then G else if G 7 n 0 = 0 then gm_up (gm_up (gm_up G 15 n 0 (G 14 n 0)) 13 n 0 (G 14 n 0)) 14 n 0 (-1) else gm_up G 15 n 0 (G 14 n 0)
theorem kwX3_keys_3 : ∀ w ∈ wsX30, w ∈ wsX3_keys := by decide +kernel
theorem lkX3_keys_25 : Cond.fieldLink RX3 25 "SharedFibreModel" "spoilt" "[Z" ∈ wsX3_keys := by decide +kernel
theorem lkX3_keys_32 : Cond.fieldLink RX3 32 "SharedFibreModel" "inForce" "[I" ∈ wsX3_keys := by decide +kernel
theorem lkX3_keys_35 : Cond.fieldLink RX3 35 "SharedFibreModel" "waiting" "[I" ∈ wsX3_keys := by decide +kernel
theorem lkX3_keys_38 : Cond.fieldLink RX3 38 "SharedFibreModel" "told" "[I" ∈ wsX3_keys := by decide +kernel
theorem lkX3_keys_41 : Cond.fieldLink RX3 41 "SharedFibreModel" "hasWord" "[Z" ∈ wsX3_keys := by decide +kernel
theorem lkX3_keys_44 : Cond.fieldLink RX3 44 "SharedFibreModel" "word" "[I" ∈ wsX3_keys := by decide +kernel
theorem lkX3_keys_47 : Cond.fieldLink RX3 47 "SharedFibreModel" "made" "[I" ∈ wsX3_keys := by decide +kernel
theorem lkX3_keys_50 : Cond.fieldLink RX3 50 "SharedFibreModel" "sentAs" "[I" ∈ wsX3_keys := by decide +kernel
theorem lkX3_keys_170 : Cond.fieldLink RX3 170 "SharedFibreModel" "frames" "I" ∈ wsX3_keys := by decide +kernel
set_option maxHeartbeats 4000000 in
set_option maxRecDepth 100000 in
/-- the reference: X3_keys -/
theorem c_X3_keys (G : gm_M) (n : Nat) (hn : n < 5) : KC lyM yX3_keys wsX3_keys ({ frames := 1, cells := 0, slots := 0, locals := 23 }) (fun ad => [.ref (ad 0 0), .int (nI n)]) G (fun _ => none) (ky2 (ky1 G n) n) := by
  refine KC.of_v (by decide) rfl rfl (fun _ => by simp) (fun _ => by simp [Value.category])  ?_
  intro X hC hR hX hE
  simp only [List.map_cons, List.map_nil, List.cons_append, List.nil_append, List.length_cons, List.length_nil, List.replicate, Nat.reduceAdd, Nat.reduceSub]
  refine go_joinM (jpc := 55) (ky1 G n) ?_ (fun hj55 => ?_)
  ·
    refine go_aload_n hC dX3_keys_55 rfl ?_
    refine go_getr (ci := 3) hC 13 kwX3_keys_3 rfl rfl (by decide) rfl lkX3_keys_35 (by first | decide | (show _ < 5; omega) | (show _ < 10; omega) | omega) dX3_keys_56 ?_
    refine go_iload_n hC dX3_keys_59 rfl ?_
    refine go_iald hC rfl (by first | decide | (show _ < 5; omega) | (show _ < 10; omega) | omega) (gm_in rfl (by omega) (by decide)) (gm_cl rfl (by omega)) dX3_keys_60 ?_
    refine go_if_lt hC 104 dX3_keys_61 (by decide) (fun h61 => ?_) (fun h61 => ?_)
    ·
      refine go_cast rfl ?_ (hE _ _ dX3_keys_104)
      first | (rw [show ky2 (ky1 G n) n = _ from if_pos h61]; done) | (rw [show ky2 (ky1 G n) n = _ from if_neg h61, if_neg h82]; done) | (rw [show ky2 (ky1 G n) n = _ from if_neg h61, if_pos h82, gm_un1 (by decide)]; done)
    ·
      refine go_aload_n hC dX3_keys_64 rfl ?_
      refine go_getr (ci := 3) hC 14 kwX3_keys_3 rfl rfl (by decide) rfl lkX3_keys_38 (by first | decide | (show _ < 5; omega) | (show _ < 10; omega) | omega) dX3_keys_65 ?_
      refine go_iload_n hC dX3_keys_68 rfl ?_
      refine go_aload_n hC dX3_keys_69 rfl ?_
      refine go_getr (ci := 3) hC 13 kwX3_keys_3 rfl rfl (by decide) rfl lkX3_keys_35 (by first | decide | (show _ < 5; omega) | (show _ < 10; omega) | omega) dX3_keys_70 ?_
      refine go_iload_n hC dX3_keys_73 rfl ?_
      refine go_iald hC rfl (by first | decide | (show _ < 5; omega) | (show _ < 10; omega) | omega) (gm_in rfl (by omega) (by decide)) (gm_cl rfl (by omega)) dX3_keys_74 ?_
      refine go_iast hC rfl (by first | decide | (show _ < 5; omega) | (show _ < 10; omega) | omega) (gm_in rfl (by omega) (by decide)) (gm_cl rfl (by omega)) dX3_keys_75 ?_
      refine go_aload_n hC dX3_keys_76 rfl ?_
      refine go_getr (ci := 3) hC 6 kwX3_keys_3 rfl rfl (by decide) rfl lkX3_keys_25 (by first | decide | (show _ < 5; omega) | (show _ < 10; omega) | omega) dX3_keys_77 ?_
      refine go_iload_n hC dX3_keys_80 rfl ?_
      refine go_zald hC rfl (by first | decide | (show _ < 5; omega) | (show _ < 10; omega) | omega) (gm_in rfl (by omega) (by decide)) (gm_cl rfl (by omega)) dX3_keys_81 ?_
      refine go_if_ne hC 104 dX3_keys_82 (by decide) (fun h82 => ?_) (fun h82 => ?_)
      ·
        rw [gm_un1 (by decide)] at h82
        refine go_cast rfl ?_ (hE _ _ dX3_keys_104)
        first | (rw [show ky2 (ky1 G n) n = _ from if_pos h61]; done) | (rw [show ky2 (ky1 G n) n = _ from if_neg h61, if_neg h82]; done) | (rw [show ky2 (ky1 G n) n = _ from if_neg h61, if_pos h82, gm_un1 (by decide)]; done)
      ·
        rw [gm_un1 (by decide)] at h82
        refine go_aload_n hC dX3_keys_85 rfl ?_
        refine go_getr (ci := 3) hC 12 kwX3_keys_3 rfl rfl (by decide) rfl lkX3_keys_32 (by first | decide | (show _ < 5; omega) | (show _ < 10; omega) | omega) dX3_keys_86 ?_
        refine go_iload_n hC dX3_keys_89 rfl ?_
        refine go_aload_n hC dX3_keys_90 rfl ?_
        refine go_getr (ci := 3) hC 13 kwX3_keys_3 rfl rfl (by decide) rfl lkX3_keys_35 (by first | decide | (show _ < 5; omega) | (show _ < 10; omega) | omega) dX3_keys_91 ?_
        refine go_iload_n hC dX3_keys_94 rfl ?_
        refine go_iald hC rfl (by first | decide | (show _ < 5; omega) | (show _ < 10; omega) | omega) (gm_in rfl (by omega) (by decide)) (gm_cl rfl (by omega)) dX3_keys_95 ?_
        refine go_iast hC rfl (by first | decide | (show _ < 5; omega) | (show _ < 10; omega) | omega) (gm_in rfl (by omega) (by decide)) (gm_cl rfl (by omega)) dX3_keys_96 ?_
        refine go_aload_n hC dX3_keys_97 rfl ?_
        refine go_getr (ci := 3) hC 13 kwX3_keys_3 rfl rfl (by decide) rfl lkX3_keys_35 (by first | decide | (show _ < 5; omega) | (show _ < 10; omega) | omega) dX3_keys_98 ?_
        refine go_iload_n hC dX3_keys_101 rfl ?_
        refine go_iconst (v := (-1)) hC dX3_keys_102 (by decide) ?_
        refine go_iast hC rfl (by first | decide | (show _ < 5; omega) | (show _ < 10; omega) | omega) (gm_in rfl (by omega) (by decide)) (gm_cl rfl (by omega)) dX3_keys_103 ?_
        refine go_cast rfl ?_ (hE _ _ dX3_keys_104)
        first | (rw [show ky2 (ky1 G n) n = _ from if_pos h61]; done) | (rw [show ky2 (ky1 G n) n = _ from if_neg h61, if_neg h82]; done) | (rw [show ky2 (ky1 G n) n = _ from if_neg h61, if_pos h82, gm_un1 (by decide)]; done)
  ·
    refine go_aload_n hC dX3_keys_0 rfl ?_
    refine go_getr (ci := 3) hC 15 kwX3_keys_3 rfl rfl (by decide) rfl lkX3_keys_41 (by first | decide | (show _ < 5; omega) | (show _ < 10; omega) | omega) dX3_keys_1 ?_
    refine go_iload_n hC dX3_keys_4 rfl ?_
    refine go_zald hC rfl (by first | decide | (show _ < 5; omega) | (show _ < 10; omega) | omega) (gm_in rfl (by omega) (by decide)) (gm_cl rfl (by omega)) dX3_keys_5 ?_
    refine go_if_eq hC 55 dX3_keys_6 (by decide) (fun h6 => ?_) (fun h6 => ?_)
    ·
      refine go_mem ?_ hj55
      first | (rw [show ky1 G n = _ from if_pos h6]; done) | (rw [show ky1 G n = _ from if_neg h6, gm_un1 (by decide)]; done) | (rw [show ky1 G n = _ from if_neg h6, gm_un1 (by decide)]; rfl)
    ·
      refine go_aload_n hC dX3_keys_9 rfl ?_
      refine go_getr (ci := 3) hC 18 kwX3_keys_3 rfl rfl (by decide) rfl lkX3_keys_50 (by first | decide | (show _ < 5; omega) | (show _ < 10; omega) | omega) dX3_keys_10 ?_
      refine go_iload_n hC dX3_keys_13 rfl ?_
      refine go_aload_n hC dX3_keys_14 rfl ?_
      refine go_getr (ci := 3) hC 16 kwX3_keys_3 rfl rfl (by decide) rfl lkX3_keys_44 (by first | decide | (show _ < 5; omega) | (show _ < 10; omega) | omega) dX3_keys_15 ?_
      refine go_iload_n hC dX3_keys_18 rfl ?_
      refine go_iald hC rfl (by first | decide | (show _ < 5; omega) | (show _ < 10; omega) | omega) (gm_in rfl (by omega) (by decide)) (gm_cl rfl (by omega)) dX3_keys_19 ?_
      refine go_aload_n hC dX3_keys_20 rfl ?_
      refine go_aload_n hC dX3_keys_21 rfl ?_
      refine go_getr (ci := 3) hC 12 kwX3_keys_3 rfl rfl (by decide) rfl lkX3_keys_32 (by first | decide | (show _ < 5; omega) | (show _ < 10; omega) | omega) dX3_keys_22 ?_
      refine go_iload_n hC dX3_keys_25 rfl ?_
      refine go_iald hC rfl (by first | decide | (show _ < 5; omega) | (show _ < 10; omega) | omega) (gm_in rfl (by omega) (by decide)) (gm_cl rfl (by omega)) dX3_keys_26 ?_
      refine go_aload_n hC dX3_keys_27 rfl ?_
      refine go_geti (ci := 3) hC 11 kwX3_keys_3 rfl rfl (by decide) rfl lkX3_keys_170 (by first | decide | (show _ < 5; omega) | (show _ < 10; omega) | omega) dX3_keys_28 ?_
      refine go_callV (n := 2) (k0 := 0) (n0 := 0) hC hX (c_X3_mix _ _ _) gX3_keys_X3_mix rfl (by decide +kernel) ⟨rfl, rfl⟩ (by rw [hR]; exact ⟨by decide, by decide⟩) (by rw [hR]; exact ⟨by decide, by decide⟩) rfl rfl rfl (by first | decide | (show _ < 5; omega) | (show _ < 10; omega) | omega) rfl rfl rfl (Nat.le_of_ble_eq_true rfl) dX3_keys_31 ?_
      simp only [gm_r0, gm_r1]
      refine go_ixor hC dX3_keys_34 ?_
      refine go_iast hC rfl (by first | decide | (show _ < 5; omega) | (show _ < 10; omega) | omega) (gm_in rfl (by omega) (by decide)) (gm_cl rfl (by omega)) dX3_keys_35 ?_
      refine go_aload_n hC dX3_keys_36 rfl ?_
      refine go_getr (ci := 3) hC 17 kwX3_keys_3 rfl rfl (by decide) rfl lkX3_keys_47 (by first | decide | (show _ < 5; omega) | (show _ < 10; omega) | omega) dX3_keys_37 ?_
      refine go_iload_n hC dX3_keys_40 rfl ?_
      refine go_aload_n hC dX3_keys_41 rfl ?_
      refine go_getr (ci := 3) hC 16 kwX3_keys_3 rfl rfl (by decide) rfl lkX3_keys_44 (by first | decide | (show _ < 5; omega) | (show _ < 10; omega) | omega) dX3_keys_42 ?_
      refine go_iload_n hC dX3_keys_45 rfl ?_
      refine go_iald hC rfl (by first | decide | (show _ < 5; omega) | (show _ < 10; omega) | omega) (gm_in rfl (by omega) (by decide)) (gm_cl rfl (by omega)) dX3_keys_46 ?_
      refine go_iast hC rfl (by first | decide | (show _ < 5; omega) | (show _ < 10; omega) | omega) (gm_in rfl (by omega) (by decide)) (gm_cl rfl (by omega)) dX3_keys_47 ?_
      refine go_aload_n hC dX3_keys_48 rfl ?_
      refine go_getr (ci := 3) hC 15 kwX3_keys_3 rfl rfl (by decide) rfl lkX3_keys_41 (by first | decide | (show _ < 5; omega) | (show _ < 10; omega) | omega) dX3_keys_49 ?_
      refine go_iload_n hC dX3_keys_52 rfl ?_
      refine go_iconst (v := 0) hC dX3_keys_53 (by decide) ?_
      refine go_zast hC rfl (by first | decide | (show _ < 5; omega) | (show _ < 10; omega) | omega) (gm_in rfl (by omega) (by decide)) (gm_cl rfl (by omega)) dX3_keys_54 ?_
      refine go_mem ?_ hj55
      first | (rw [show ky1 G n = _ from if_pos h6]; done) | (rw [show ky1 G n = _ from if_neg h6, gm_un1 (by decide)]; done) | (rw [show ky1 G n = _ from if_neg h6, gm_un1 (by decide)]; rfl)
