/-! ===== the reference (3) ===== -/
def unM (G : gm_M) (n : Nat) (y : Int32) : Int32 := if y = 0 then G 2 n 0 else if y = 1 then (if G 2 n 0 = 2 then erM G n else 0) else if y = 2 then G 13 n 0 else if y = 3 then G 15 n 0 else if y = 4 then G 18 n 0 else if y = 5 then G 19 n 0 else G 5 n 0
theorem kwX3_unit_3 : ∀ w ∈ wsX30, w ∈ wsX3_unit := by decide +kernel
theorem lkX3_unit_7 : Cond.fieldLink RX3 7 "SharedFibreModel" "state" "[I" ∈ wsX3_unit := by decide +kernel
theorem lkX3_unit_19 : Cond.fieldLink RX3 19 "SharedFibreModel" "answered" "[I" ∈ wsX3_unit := by decide +kernel
theorem lkX3_unit_32 : Cond.fieldLink RX3 32 "SharedFibreModel" "inForce" "[I" ∈ wsX3_unit := by decide +kernel
theorem lkX3_unit_38 : Cond.fieldLink RX3 38 "SharedFibreModel" "told" "[I" ∈ wsX3_unit := by decide +kernel
theorem lkX3_unit_47 : Cond.fieldLink RX3 47 "SharedFibreModel" "made" "[I" ∈ wsX3_unit := by decide +kernel
theorem lkX3_unit_50 : Cond.fieldLink RX3 50 "SharedFibreModel" "sentAs" "[I" ∈ wsX3_unit := by decide +kernel
theorem lkX3_unit_101 : Cond.fieldLink RX3 101 "SharedFibreModel" "thrown" "I" ∈ wsX3_unit := by decide +kernel
set_option maxHeartbeats 4000000 in
set_option maxRecDepth 100000 in
/-- the reference: X3_unit -/
theorem c_X3_unit (G : gm_M) (u y : Int32) : KC lyM yX3_unit wsX3_unit ({ frames := 2, cells := 0, slots := 0, locals := 42 }) (fun ad => [.ref (ad 0 0), .int u, .int y]) G (fun _ => some (.int (sdR ((bU u ∨ y < 0 ∨ ¬ y ≤ 6) ∨ G 2 (uN u) 0 = 0) (unM G (uN u) y)))) (gm_up G 0 0 0 (tF (bU u ∨ y < 0 ∨ ¬ y ≤ 6))) := by
  refine KC.of_i (by decide) rfl rfl (fun _ => by simp) (fun _ => by simp [Value.category])  ?_
  intro X hC hR hX hE
  simp only [List.map_cons, List.map_nil, List.cons_append, List.nil_append, List.length_cons, List.length_nil, List.replicate, Nat.reduceAdd, Nat.reduceSub]
  refine go_aload_n hC dX3_unit_0 rfl ?_
  refine go_joinI (jpc := 25) (tF (bU u ∨ y < 0 ∨ ¬ y ≤ 6)) ?_ (fun hj25 => ?_)
  ·
    refine go_puti (ci := 3) hC 0 kwX3_unit_3 rfl tyX3 tyX3_ok nmX3 rfl (by decide) rfl lkX3_unit_101 (by first | decide | (show _ < 5; omega) | (show _ < 10; omega) | omega) rfl rfl rfl dX3_unit_25 ?_
    refine go_aload_n hC dX3_unit_28 rfl ?_
    refine go_geti (ci := 3) hC 0 kwX3_unit_3 rfl rfl (by decide) rfl lkX3_unit_101 (by first | decide | (show _ < 5; omega) | (show _ < 10; omega) | omega) dX3_unit_29 ?_
    refine go_if_ne hC 44 dX3_unit_32 (by decide) (fun h32 => ?_) (fun h32 => ?_)
    ·
      rw [gm_us] at h32
      have hz : (bU u ∨ y < 0 ∨ ¬ y ≤ 6) ∨ G 2 (uN u) 0 = 0 := Or.inl (tF_ne h32)
      refine go_iconst (v := 0) hC dX3_unit_44 (by decide) ?_
      refine go_cast ?_ rfl (hE _ _ dX3_unit_45)
      rw [sdR_t hz]
    ·
      rw [gm_us] at h32
      have hnb := tF_eq h32
      obtain ⟨hue, hu5⟩ := bU_ix (fun q => hnb (Or.inl q))
      refine go_aload_n hC dX3_unit_35 rfl ?_
      refine go_getr (ci := 3) hC 1 kwX3_unit_3 rfl rfl (by decide) rfl lkX3_unit_7 (by first | decide | (show _ < 5; omega) | (show _ < 10; omega) | omega) dX3_unit_36 ?_
      refine go_iload_n hC dX3_unit_39 rfl ?_
      refine go_iald hC rfl (by first | decide | (show _ < 5; omega) | (show _ < 10; omega) | omega) (gm_in hue (by omega) (by decide)) (gm_cl hue (by omega)) dX3_unit_40 ?_
      refine go_if_ne hC 46 dX3_unit_41 (by decide) (fun h41 => ?_) (fun h41 => ?_)
      ·
        rw [gm_un1 (show (2 : Nat) ≠ 0 by decide)] at h41
        have hnz : ¬ ((bU u ∨ y < 0 ∨ ¬ y ≤ 6) ∨ G 2 (uN u) 0 = 0) := fun q => q.elim hnb h41
        refine go_iload_n hC dX3_unit_46 rfl ?_
        by_cases w0 : y = 0
        ·
          subst w0
          refine go_tabIn (off := 37) hC 84 dX3_unit_47 (by decide) (by decide) (by decide) (by decide) ?_
          refine go_aload_n hC dX3_unit_84 rfl ?_
          refine go_getr (ci := 3) hC 1 kwX3_unit_3 rfl rfl (by decide) rfl lkX3_unit_7 (by first | decide | (show _ < 5; omega) | (show _ < 10; omega) | omega) dX3_unit_85 ?_
          refine go_iload_n hC dX3_unit_88 rfl ?_
          refine go_iald hC rfl (by first | decide | (show _ < 5; omega) | (show _ < 10; omega) | omega) (gm_in hue (by omega) (by decide)) (gm_cl hue (by omega)) dX3_unit_89 ?_
          refine go_cast ?_ rfl (hE _ _ dX3_unit_90)
          rw [sdR_f hnz, gm_un1 (show (2 : Nat) ≠ 0 by decide)]
          rfl
        by_cases w1 : y = 1
        ·
          subst w1
          refine go_tabIn (off := 44) hC 91 dX3_unit_47 (by decide) (by decide) (by decide) (by decide) ?_
          refine go_aload_n hC dX3_unit_91 rfl ?_
          refine go_getr (ci := 3) hC 1 kwX3_unit_3 rfl rfl (by decide) rfl lkX3_unit_7 (by first | decide | (show _ < 5; omega) | (show _ < 10; omega) | omega) dX3_unit_92 ?_
          refine go_iload_n hC dX3_unit_95 rfl ?_
          refine go_iald hC rfl (by first | decide | (show _ < 5; omega) | (show _ < 10; omega) | omega) (gm_in hue (by omega) (by decide)) (gm_cl hue (by omega)) dX3_unit_96 ?_
          refine go_iconst (v := 2) hC dX3_unit_97 (by decide) ?_
          refine go_icmp_ne hC 109 dX3_unit_98 (by decide) (fun h98 => ?_) (fun h98 => ?_)
          ·
            rw [gm_un1 (show (2 : Nat) ≠ 0 by decide)] at h98
            refine go_iconst (v := 0) hC dX3_unit_109 (by decide) ?_
            refine go_cast ?_ rfl (hE _ _ dX3_unit_110)
            first | (rw [sdR_f hnz, show unM G (uN u) 1 = 0 from if_neg h98]; done) | (rw [sdR_f hnz, show unM G (uN u) 1 = erM G (uN u) from if_pos h98]; simp only [erM, gm_un1 (show (4 : Nat) ≠ 0 by decide), gm_un1 (show (6 : Nat) ≠ 0 by decide), gm_un2 (show (7 : Nat) ≠ 0 by decide)]; done)
          ·
            rw [gm_un1 (show (2 : Nat) ≠ 0 by decide)] at h98
            refine go_aload_n hC dX3_unit_101 rfl ?_
            refine go_iload_n hC dX3_unit_102 rfl ?_
            refine go_cast (st' := .int (nI (uN u)) :: .ref (gm_ad X 0 0) :: []) (by rw [← hue]) rfl ?_
            refine go_callV (n := 1) (k0 := 0) (n0 := 0) hC hX (c_X3_errorOf _ (uN u) hu5) gX3_unit_X3_errorOf rfl (by decide +kernel) ⟨rfl, rfl⟩ (by rw [hR]; exact ⟨by decide, by decide⟩) (by rw [hR]; exact ⟨by decide, by decide⟩) rfl rfl rfl (by first | decide | (show _ < 5; omega) | (show _ < 10; omega) | omega) rfl rfl rfl (Nat.le_of_ble_eq_true rfl) dX3_unit_103 ?_
            simp only [gm_r0, gm_r1]
            refine go_goto hC 110 dX3_unit_106 (by decide) ?_
            refine go_cast ?_ rfl (hE _ _ dX3_unit_110)
            first | (rw [sdR_f hnz, show unM G (uN u) 1 = 0 from if_neg h98]; done) | (rw [sdR_f hnz, show unM G (uN u) 1 = erM G (uN u) from if_pos h98]; simp only [erM, gm_un1 (show (4 : Nat) ≠ 0 by decide), gm_un1 (show (6 : Nat) ≠ 0 by decide), gm_un2 (show (7 : Nat) ≠ 0 by decide)]; done)
        by_cases w2 : y = 2
        ·
          subst w2
          refine go_tabIn (off := 64) hC 111 dX3_unit_47 (by decide) (by decide) (by decide) (by decide) ?_
          refine go_aload_n hC dX3_unit_111 rfl ?_
          refine go_getr (ci := 3) hC 12 kwX3_unit_3 rfl rfl (by decide) rfl lkX3_unit_32 (by first | decide | (show _ < 5; omega) | (show _ < 10; omega) | omega) dX3_unit_112 ?_
          refine go_iload_n hC dX3_unit_115 rfl ?_
          refine go_iald hC rfl (by first | decide | (show _ < 5; omega) | (show _ < 10; omega) | omega) (gm_in hue (by omega) (by decide)) (gm_cl hue (by omega)) dX3_unit_116 ?_
          refine go_cast ?_ rfl (hE _ _ dX3_unit_117)
          rw [sdR_f hnz, gm_un1 (show (13 : Nat) ≠ 0 by decide)]
          rfl
        by_cases w3 : y = 3
        ·
          subst w3
          refine go_tabIn (off := 71) hC 118 dX3_unit_47 (by decide) (by decide) (by decide) (by decide) ?_
          refine go_aload_n hC dX3_unit_118 rfl ?_
          refine go_getr (ci := 3) hC 14 kwX3_unit_3 rfl rfl (by decide) rfl lkX3_unit_38 (by first | decide | (show _ < 5; omega) | (show _ < 10; omega) | omega) dX3_unit_119 ?_
          refine go_iload_n hC dX3_unit_122 rfl ?_
          refine go_iald hC rfl (by first | decide | (show _ < 5; omega) | (show _ < 10; omega) | omega) (gm_in hue (by omega) (by decide)) (gm_cl hue (by omega)) dX3_unit_123 ?_
          refine go_cast ?_ rfl (hE _ _ dX3_unit_124)
          rw [sdR_f hnz, gm_un1 (show (15 : Nat) ≠ 0 by decide)]
          rfl
        by_cases w4 : y = 4
        ·
          subst w4
          refine go_tabIn (off := 78) hC 125 dX3_unit_47 (by decide) (by decide) (by decide) (by decide) ?_
          refine go_aload_n hC dX3_unit_125 rfl ?_
          refine go_getr (ci := 3) hC 17 kwX3_unit_3 rfl rfl (by decide) rfl lkX3_unit_47 (by first | decide | (show _ < 5; omega) | (show _ < 10; omega) | omega) dX3_unit_126 ?_
          refine go_iload_n hC dX3_unit_129 rfl ?_
          refine go_iald hC rfl (by first | decide | (show _ < 5; omega) | (show _ < 10; omega) | omega) (gm_in hue (by omega) (by decide)) (gm_cl hue (by omega)) dX3_unit_130 ?_
          refine go_cast ?_ rfl (hE _ _ dX3_unit_131)
          rw [sdR_f hnz, gm_un1 (show (18 : Nat) ≠ 0 by decide)]
          rfl
        by_cases w5 : y = 5
        ·
          subst w5
          refine go_tabIn (off := 85) hC 132 dX3_unit_47 (by decide) (by decide) (by decide) (by decide) ?_
          refine go_aload_n hC dX3_unit_132 rfl ?_
          refine go_getr (ci := 3) hC 18 kwX3_unit_3 rfl rfl (by decide) rfl lkX3_unit_50 (by first | decide | (show _ < 5; omega) | (show _ < 10; omega) | omega) dX3_unit_133 ?_
          refine go_iload_n hC dX3_unit_136 rfl ?_
          refine go_iald hC rfl (by first | decide | (show _ < 5; omega) | (show _ < 10; omega) | omega) (gm_in hue (by omega) (by decide)) (gm_cl hue (by omega)) dX3_unit_137 ?_
          refine go_cast ?_ rfl (hE _ _ dX3_unit_138)
          rw [sdR_f hnz, gm_un1 (show (19 : Nat) ≠ 0 by decide)]
          rfl
        have hsw := swOut y 5 (by decide) (fun k hk => by rcases (show k = 0 ∨ k = 1 ∨ k = 2 ∨ k = 3 ∨ k = 4 ∨ k = 5 by omega) with rfl | rfl | rfl | rfl | rfl | rfl; exact w0; exact w1; exact w2; exact w3; exact w4; exact w5)
        refine go_tabOut hC 139 dX3_unit_47 hsw (by decide) ?_
        refine go_aload_n hC dX3_unit_139 rfl ?_
        refine go_getr (ci := 3) hC 4 kwX3_unit_3 rfl rfl (by decide) rfl lkX3_unit_19 (by first | decide | (show _ < 5; omega) | (show _ < 10; omega) | omega) dX3_unit_140 ?_
        refine go_iload_n hC dX3_unit_143 rfl ?_
        refine go_iald hC rfl (by first | decide | (show _ < 5; omega) | (show _ < 10; omega) | omega) (gm_in hue (by omega) (by decide)) (gm_cl hue (by omega)) dX3_unit_144 ?_
        refine go_cast ?_ rfl (hE _ _ dX3_unit_145)
        rw [sdR_f hnz, gm_un1 (show (5 : Nat) ≠ 0 by decide), unM, if_neg w0, if_neg w1, if_neg w2, if_neg w3, if_neg w4, if_neg w5]
      ·
        rw [gm_un1 (show (2 : Nat) ≠ 0 by decide)] at h41
        have hz : (bU u ∨ y < 0 ∨ ¬ y ≤ 6) ∨ G 2 (uN u) 0 = 0 := Or.inr h41
        refine go_iconst (v := 0) hC dX3_unit_44 (by decide) ?_
        refine go_cast ?_ rfl (hE _ _ dX3_unit_45)
        rw [sdR_t hz]
  ·
    refine go_iload_n hC dX3_unit_1 rfl ?_
    refine go_if_lt hC 20 dX3_unit_2 (by decide) (fun h2 => ?_) (fun h2 => ?_)
    ·
      refine go_iconst (v := 1) hC dX3_unit_20 (by decide) ?_
      refine go_goto hC 25 dX3_unit_21 (by decide) ?_
      refine go_cast ?_ rfl hj25
      first | rw [tF_t (P := (bU u ∨ y < 0 ∨ ¬ y ≤ 6)) (Or.inl (Or.inl h2))] | rw [tF_t (P := (bU u ∨ y < 0 ∨ ¬ y ≤ 6)) (Or.inl (bU_of h7))] | rw [tF_t (P := (bU u ∨ y < 0 ∨ ¬ y ≤ 6)) (Or.inr (Or.inl h11))] | rw [tF_t (P := (bU u ∨ y < 0 ∨ ¬ y ≤ 6)) (Or.inr (Or.inr h17))] | rw [tF_f (P := (bU u ∨ y < 0 ∨ ¬ y ≤ 6)) (fun q => q.elim (bU_no h2 h7) (fun q => q.elim h11 (fun q => q h17)))]
    ·
      refine go_iload_n hC dX3_unit_5 rfl ?_
      refine go_iconst (v := 4) hC dX3_unit_6 (by decide) ?_
      refine go_icmp_gt hC 20 dX3_unit_7 (by decide) (fun h7 => ?_) (fun h7 => ?_)
      ·
        refine go_iconst (v := 1) hC dX3_unit_20 (by decide) ?_
        refine go_goto hC 25 dX3_unit_21 (by decide) ?_
        refine go_cast ?_ rfl hj25
        first | rw [tF_t (P := (bU u ∨ y < 0 ∨ ¬ y ≤ 6)) (Or.inl (Or.inl h2))] | rw [tF_t (P := (bU u ∨ y < 0 ∨ ¬ y ≤ 6)) (Or.inl (bU_of h7))] | rw [tF_t (P := (bU u ∨ y < 0 ∨ ¬ y ≤ 6)) (Or.inr (Or.inl h11))] | rw [tF_t (P := (bU u ∨ y < 0 ∨ ¬ y ≤ 6)) (Or.inr (Or.inr h17))] | rw [tF_f (P := (bU u ∨ y < 0 ∨ ¬ y ≤ 6)) (fun q => q.elim (bU_no h2 h7) (fun q => q.elim h11 (fun q => q h17)))]
      ·
        refine go_iload_n hC dX3_unit_10 rfl ?_
        refine go_if_lt hC 20 dX3_unit_11 (by decide) (fun h11 => ?_) (fun h11 => ?_)
        ·
          refine go_iconst (v := 1) hC dX3_unit_20 (by decide) ?_
          refine go_goto hC 25 dX3_unit_21 (by decide) ?_
          refine go_cast ?_ rfl hj25
          first | rw [tF_t (P := (bU u ∨ y < 0 ∨ ¬ y ≤ 6)) (Or.inl (Or.inl h2))] | rw [tF_t (P := (bU u ∨ y < 0 ∨ ¬ y ≤ 6)) (Or.inl (bU_of h7))] | rw [tF_t (P := (bU u ∨ y < 0 ∨ ¬ y ≤ 6)) (Or.inr (Or.inl h11))] | rw [tF_t (P := (bU u ∨ y < 0 ∨ ¬ y ≤ 6)) (Or.inr (Or.inr h17))] | rw [tF_f (P := (bU u ∨ y < 0 ∨ ¬ y ≤ 6)) (fun q => q.elim (bU_no h2 h7) (fun q => q.elim h11 (fun q => q h17)))]
        ·
          refine go_iload_n hC dX3_unit_14 rfl ?_
          refine go_bipush (v := 6) hC dX3_unit_15 (by decide) ?_
          refine go_icmp_le hC 24 dX3_unit_17 (by decide) (fun h17 => ?_) (fun h17 => ?_)
          ·
            refine go_iconst (v := 0) hC dX3_unit_24 (by decide) ?_
            refine go_cast ?_ rfl hj25
            first | rw [tF_t (P := (bU u ∨ y < 0 ∨ ¬ y ≤ 6)) (Or.inl (Or.inl h2))] | rw [tF_t (P := (bU u ∨ y < 0 ∨ ¬ y ≤ 6)) (Or.inl (bU_of h7))] | rw [tF_t (P := (bU u ∨ y < 0 ∨ ¬ y ≤ 6)) (Or.inr (Or.inl h11))] | rw [tF_t (P := (bU u ∨ y < 0 ∨ ¬ y ≤ 6)) (Or.inr (Or.inr h17))] | rw [tF_f (P := (bU u ∨ y < 0 ∨ ¬ y ≤ 6)) (fun q => q.elim (bU_no h2 h7) (fun q => q.elim h11 (fun q => q h17)))]
          ·
            refine go_iconst (v := 1) hC dX3_unit_20 (by decide) ?_
            refine go_goto hC 25 dX3_unit_21 (by decide) ?_
            refine go_cast ?_ rfl hj25
            first | rw [tF_t (P := (bU u ∨ y < 0 ∨ ¬ y ≤ 6)) (Or.inl (Or.inl h2))] | rw [tF_t (P := (bU u ∨ y < 0 ∨ ¬ y ≤ 6)) (Or.inl (bU_of h7))] | rw [tF_t (P := (bU u ∨ y < 0 ∨ ¬ y ≤ 6)) (Or.inr (Or.inl h11))] | rw [tF_t (P := (bU u ∨ y < 0 ∨ ¬ y ≤ 6)) (Or.inr (Or.inr h17))] | rw [tF_f (P := (bU u ∨ y < 0 ∨ ¬ y ≤ 6)) (fun q => q.elim (bU_no h2 h7) (fun q => q.elim h11 (fun q => q h17)))]
def cnM (G : gm_M) (n q : Nat) (y : Int32) : Int32 := if y = 0 then bx_sum (fun k => G 30 (uN (G 28 (8 * n + k) 0)) 0) q else if y = 1 then G 24 n 0 else if y = 2 then G 25 n 0 else G 27 n 0
theorem kwX3_container_3 : ∀ w ∈ wsX30, w ∈ wsX3_container := by decide +kernel
theorem lkX3_container_7 : Cond.fieldLink RX3 7 "SharedFibreModel" "state" "[I" ∈ wsX3_container := by decide +kernel
theorem lkX3_container_65 : Cond.fieldLink RX3 65 "SharedFibreModel" "reported" "[I" ∈ wsX3_container := by decide +kernel
theorem lkX3_container_68 : Cond.fieldLink RX3 68 "SharedFibreModel" "given" "[I" ∈ wsX3_container := by decide +kernel
theorem lkX3_container_74 : Cond.fieldLink RX3 74 "SharedFibreModel" "queued" "[I" ∈ wsX3_container := by decide +kernel
theorem lkX3_container_101 : Cond.fieldLink RX3 101 "SharedFibreModel" "thrown" "I" ∈ wsX3_container := by decide +kernel
set_option maxHeartbeats 4000000 in
set_option maxRecDepth 100000 in
/-- the reference: X3_container -/
theorem c_X3_container (G : gm_M) (u c y : Int32) (q : Nat → Nat) (hq : ∀ n, n < 10 → G 27 n 0 = nI (q n) ∧ q n ≤ 8) (hd : ∀ n, n < 10 → ∀ k, k < q n → G 28 (8 * n + k) 0 = nI (uN (G 28 (8 * n + k) 0)) ∧ uN (G 28 (8 * n + k) 0) < 100) : KC lyM yX3_container wsX3_container ({ frames := 1, cells := 0, slots := 0, locals := 23 }) (fun ad => [.ref (ad 0 0), .int u, .int c, .int y]) G (fun _ => some (.int (sdR ((bU u ∨ bC c ∨ y < 0 ∨ ¬ y ≤ 3) ∨ G 2 (uN u) 0 = 0) (cnM G (2 * uN u + uN c) (q (2 * uN u + uN c)) y)))) (gm_up G 0 0 0 (tF (bU u ∨ bC c ∨ y < 0 ∨ ¬ y ≤ 3))) := by
  refine KC.of_i (by decide) rfl rfl (fun _ => by simp) (fun _ => by simp [Value.category])  ?_
  intro X hC hR hX hE
  simp only [List.map_cons, List.map_nil, List.cons_append, List.nil_append, List.length_cons, List.length_nil, List.replicate, Nat.reduceAdd, Nat.reduceSub]
  refine go_aload_n hC dX3_container_0 rfl ?_
  refine go_joinI (jpc := 33) (tF (bU u ∨ bC c ∨ y < 0 ∨ ¬ y ≤ 3)) ?_ (fun hj33 => ?_)
  ·
    refine go_puti (ci := 3) hC 0 kwX3_container_3 rfl tyX3 tyX3_ok nmX3 rfl (by decide) rfl lkX3_container_101 (by first | decide | (show _ < 5; omega) | (show _ < 10; omega) | omega) rfl rfl rfl dX3_container_33 ?_
    refine go_aload_n hC dX3_container_36 rfl ?_
    refine go_geti (ci := 3) hC 0 kwX3_container_3 rfl rfl (by decide) rfl lkX3_container_101 (by first | decide | (show _ < 5; omega) | (show _ < 10; omega) | omega) dX3_container_37 ?_
    refine go_if_ne hC 52 dX3_container_40 (by decide) (fun h40 => ?_) (fun h40 => ?_)
    ·
      rw [gm_us] at h40
      have hz : (bU u ∨ bC c ∨ y < 0 ∨ ¬ y ≤ 3) ∨ G 2 (uN u) 0 = 0 := Or.inl (tF_ne h40)
      refine go_iconst (v := 0) hC dX3_container_52 (by decide) ?_
      refine go_cast ?_ rfl (hE _ _ dX3_container_53)
      rw [sdR_t hz]
    ·
      rw [gm_us] at h40
      have hnb := tF_eq h40
      obtain ⟨hue, hu5⟩ := bU_ix (fun q => hnb (Or.inl q))
      obtain ⟨hce, hc2⟩ := bC_ix (fun q => hnb (Or.inr (Or.inl q)))
      have hix : (2 : Int32) * u + c = nI (2 * uN u + uN c) := by rw [← nI_add, ← hce]; congr 1; exact (congrArg (2 * ·) hue).trans (pk_mul 2 (uN u))
      refine go_aload_n hC dX3_container_43 rfl ?_
      refine go_getr (ci := 3) hC 1 kwX3_container_3 rfl rfl (by decide) rfl lkX3_container_7 (by first | decide | (show _ < 5; omega) | (show _ < 10; omega) | omega) dX3_container_44 ?_
      refine go_iload_n hC dX3_container_47 rfl ?_
      refine go_iald hC rfl (by first | decide | (show _ < 5; omega) | (show _ < 10; omega) | omega) (gm_in hue (by omega) (by decide)) (gm_cl hue (by omega)) dX3_container_48 ?_
      refine go_if_ne hC 54 dX3_container_49 (by decide) (fun h49 => ?_) (fun h49 => ?_)
      ·
        rw [gm_un1 (show (2 : Nat) ≠ 0 by decide)] at h49
        have hnz : ¬ ((bU u ∨ bC c ∨ y < 0 ∨ ¬ y ≤ 3) ∨ G 2 (uN u) 0 = 0) := fun q => q.elim hnb h49
        refine go_iconst (v := 2) hC dX3_container_54 (by decide) ?_
        refine go_iload_n hC dX3_container_55 rfl ?_
        refine go_imul hC dX3_container_56 ?_
        refine go_iload_n hC dX3_container_57 rfl ?_
        refine go_iadd hC dX3_container_58 ?_
        rw [hix]
        refine go_istore hC dX3_container_59 (Nat.le_of_ble_eq_true rfl) ?_
        simp only [gm_s0, gm_s1]
        refine go_iload_n hC dX3_container_61 rfl ?_
        refine go_if_ne hC 74 dX3_container_62 (by decide) (fun h62 => ?_) (fun h62 => ?_)
        ·
          refine go_iload_n hC dX3_container_74 rfl ?_
          refine go_iconst (v := 1) hC dX3_container_75 (by decide) ?_
          refine go_icmp_ne hC 89 dX3_container_76 (by decide) (fun h76 => ?_) (fun h76 => ?_)
          ·
            refine go_iload_n hC dX3_container_89 rfl ?_
            refine go_iconst (v := 2) hC dX3_container_90 (by decide) ?_
            refine go_icmp_ne hC 104 dX3_container_91 (by decide) (fun h91 => ?_) (fun h91 => ?_)
            ·
              refine go_aload_n hC dX3_container_104 rfl ?_
              refine go_getr (ci := 3) hC 26 kwX3_container_3 rfl rfl (by decide) rfl lkX3_container_74 (by first | decide | (show _ < 5; omega) | (show _ < 10; omega) | omega) dX3_container_105 ?_
              refine go_iload hC dX3_container_108 rfl ?_
              refine go_iald hC rfl (by first | decide | (show _ < 5; omega) | (show _ < 10; omega) | omega) (gm_in (n := (2 * uN u + uN c)) rfl (by omega) (by decide)) (gm_cl (n := (2 * uN u + uN c)) rfl (by omega)) dX3_container_110 ?_
              refine go_cast ?_ rfl (hE _ _ dX3_container_111)
              first | (rw [sdR_f hnz, cnM, if_pos h62]; simp only [gm_un1 (show (28 : Nat) ≠ 0 by decide), gm_un1 (show (30 : Nat) ≠ 0 by decide)]; done) | (rw [sdR_f hnz, cnM, if_neg h62, if_pos h76, gm_un1 (show (24 : Nat) ≠ 0 by decide)]; done) | (rw [sdR_f hnz, cnM, if_neg h62, if_neg h76, if_pos h91, gm_un1 (show (25 : Nat) ≠ 0 by decide)]; done) | (rw [sdR_f hnz, cnM, if_neg h62, if_neg h76, if_neg h91, gm_un1 (show (27 : Nat) ≠ 0 by decide)]; done)
            ·
              refine go_aload_n hC dX3_container_94 rfl ?_
              refine go_getr (ci := 3) hC 24 kwX3_container_3 rfl rfl (by decide) rfl lkX3_container_68 (by first | decide | (show _ < 5; omega) | (show _ < 10; omega) | omega) dX3_container_95 ?_
              refine go_iload hC dX3_container_98 rfl ?_
              refine go_iald hC rfl (by first | decide | (show _ < 5; omega) | (show _ < 10; omega) | omega) (gm_in (n := (2 * uN u + uN c)) rfl (by omega) (by decide)) (gm_cl (n := (2 * uN u + uN c)) rfl (by omega)) dX3_container_100 ?_
              refine go_goto hC 111 dX3_container_101 (by decide) ?_
              refine go_cast ?_ rfl (hE _ _ dX3_container_111)
              first | (rw [sdR_f hnz, cnM, if_pos h62]; simp only [gm_un1 (show (28 : Nat) ≠ 0 by decide), gm_un1 (show (30 : Nat) ≠ 0 by decide)]; done) | (rw [sdR_f hnz, cnM, if_neg h62, if_pos h76, gm_un1 (show (24 : Nat) ≠ 0 by decide)]; done) | (rw [sdR_f hnz, cnM, if_neg h62, if_neg h76, if_pos h91, gm_un1 (show (25 : Nat) ≠ 0 by decide)]; done) | (rw [sdR_f hnz, cnM, if_neg h62, if_neg h76, if_neg h91, gm_un1 (show (27 : Nat) ≠ 0 by decide)]; done)
          ·
            refine go_aload_n hC dX3_container_79 rfl ?_
            refine go_getr (ci := 3) hC 23 kwX3_container_3 rfl rfl (by decide) rfl lkX3_container_65 (by first | decide | (show _ < 5; omega) | (show _ < 10; omega) | omega) dX3_container_80 ?_
            refine go_iload hC dX3_container_83 rfl ?_
            refine go_iald hC rfl (by first | decide | (show _ < 5; omega) | (show _ < 10; omega) | omega) (gm_in (n := (2 * uN u + uN c)) rfl (by omega) (by decide)) (gm_cl (n := (2 * uN u + uN c)) rfl (by omega)) dX3_container_85 ?_
            refine go_goto hC 111 dX3_container_86 (by decide) ?_
            refine go_cast ?_ rfl (hE _ _ dX3_container_111)
            first | (rw [sdR_f hnz, cnM, if_pos h62]; simp only [gm_un1 (show (28 : Nat) ≠ 0 by decide), gm_un1 (show (30 : Nat) ≠ 0 by decide)]; done) | (rw [sdR_f hnz, cnM, if_neg h62, if_pos h76, gm_un1 (show (24 : Nat) ≠ 0 by decide)]; done) | (rw [sdR_f hnz, cnM, if_neg h62, if_neg h76, if_pos h91, gm_un1 (show (25 : Nat) ≠ 0 by decide)]; done) | (rw [sdR_f hnz, cnM, if_neg h62, if_neg h76, if_neg h91, gm_un1 (show (27 : Nat) ≠ 0 by decide)]; done)
        ·
          refine go_aload_n hC dX3_container_65 rfl ?_
          refine go_iload hC dX3_container_66 rfl ?_
          refine go_callV (n := 1) (k0 := 0) (n0 := 0) hC hX (c_X3_loadOf _ (2 * uN u + uN c) (q (2 * uN u + uN c)) (by omega) (by rw [gm_un1 (show (27 : Nat) ≠ 0 by decide)]; exact (hq (2 * uN u + uN c) (by omega)).1) (hq (2 * uN u + uN c) (by omega)).2 (fun k hk => by rw [gm_un1 (show (28 : Nat) ≠ 0 by decide)]; exact hd (2 * uN u + uN c) (by omega) k hk)) gX3_container_X3_loadOf rfl (by decide +kernel) ⟨rfl, rfl⟩ (by rw [hR]; exact ⟨by decide, by decide⟩) (by rw [hR]; exact ⟨by decide, by decide⟩) rfl rfl rfl (by first | decide | (show _ < 5; omega) | (show _ < 10; omega) | omega) rfl rfl rfl (Nat.le_of_ble_eq_true rfl) dX3_container_68 ?_
          simp only [gm_r0, gm_r1]
          refine go_goto hC 111 dX3_container_71 (by decide) ?_
          refine go_cast ?_ rfl (hE _ _ dX3_container_111)
          first | (rw [sdR_f hnz, cnM, if_pos h62]; simp only [gm_un1 (show (28 : Nat) ≠ 0 by decide), gm_un1 (show (30 : Nat) ≠ 0 by decide)]; done) | (rw [sdR_f hnz, cnM, if_neg h62, if_pos h76, gm_un1 (show (24 : Nat) ≠ 0 by decide)]; done) | (rw [sdR_f hnz, cnM, if_neg h62, if_neg h76, if_pos h91, gm_un1 (show (25 : Nat) ≠ 0 by decide)]; done) | (rw [sdR_f hnz, cnM, if_neg h62, if_neg h76, if_neg h91, gm_un1 (show (27 : Nat) ≠ 0 by decide)]; done)
      ·
        rw [gm_un1 (show (2 : Nat) ≠ 0 by decide)] at h49
        have hz : (bU u ∨ bC c ∨ y < 0 ∨ ¬ y ≤ 3) ∨ G 2 (uN u) 0 = 0 := Or.inr h49
        refine go_iconst (v := 0) hC dX3_container_52 (by decide) ?_
        refine go_cast ?_ rfl (hE _ _ dX3_container_53)
        rw [sdR_t hz]
  ·
    refine go_iload_n hC dX3_container_1 rfl ?_
    refine go_if_lt hC 28 dX3_container_2 (by decide) (fun h2 => ?_) (fun h2 => ?_)
    ·
      refine go_iconst (v := 1) hC dX3_container_28 (by decide) ?_
      refine go_goto hC 33 dX3_container_29 (by decide) ?_
      refine go_cast ?_ rfl hj33
      first | rw [tF_t (P := (bU u ∨ bC c ∨ y < 0 ∨ ¬ y ≤ 3)) (Or.inl (Or.inl h2))] | rw [tF_t (P := (bU u ∨ bC c ∨ y < 0 ∨ ¬ y ≤ 3)) (Or.inl (bU_of h7))] | rw [tF_t (P := (bU u ∨ bC c ∨ y < 0 ∨ ¬ y ≤ 3)) (Or.inr (Or.inl (Or.inl h11)))] | rw [tF_t (P := (bU u ∨ bC c ∨ y < 0 ∨ ¬ y ≤ 3)) (Or.inr (Or.inl (bC_of (fun q => i_le.mp q h16))))] | rw [tF_t (P := (bU u ∨ bC c ∨ y < 0 ∨ ¬ y ≤ 3)) (Or.inr (Or.inr (Or.inl h20)))] | rw [tF_t (P := (bU u ∨ bC c ∨ y < 0 ∨ ¬ y ≤ 3)) (Or.inr (Or.inr (Or.inr h25)))] | rw [tF_f (P := (bU u ∨ bC c ∨ y < 0 ∨ ¬ y ≤ 3)) (fun q => q.elim (bU_no h2 h7) (fun q => q.elim (bC_no h11 (i_le.mpr h16)) (fun q => q.elim h20 (fun q => q h25))))]
    ·
      refine go_iload_n hC dX3_container_5 rfl ?_
      refine go_iconst (v := 4) hC dX3_container_6 (by decide) ?_
      refine go_icmp_gt hC 28 dX3_container_7 (by decide) (fun h7 => ?_) (fun h7 => ?_)
      ·
        refine go_iconst (v := 1) hC dX3_container_28 (by decide) ?_
        refine go_goto hC 33 dX3_container_29 (by decide) ?_
        refine go_cast ?_ rfl hj33
        first | rw [tF_t (P := (bU u ∨ bC c ∨ y < 0 ∨ ¬ y ≤ 3)) (Or.inl (Or.inl h2))] | rw [tF_t (P := (bU u ∨ bC c ∨ y < 0 ∨ ¬ y ≤ 3)) (Or.inl (bU_of h7))] | rw [tF_t (P := (bU u ∨ bC c ∨ y < 0 ∨ ¬ y ≤ 3)) (Or.inr (Or.inl (Or.inl h11)))] | rw [tF_t (P := (bU u ∨ bC c ∨ y < 0 ∨ ¬ y ≤ 3)) (Or.inr (Or.inl (bC_of (fun q => i_le.mp q h16))))] | rw [tF_t (P := (bU u ∨ bC c ∨ y < 0 ∨ ¬ y ≤ 3)) (Or.inr (Or.inr (Or.inl h20)))] | rw [tF_t (P := (bU u ∨ bC c ∨ y < 0 ∨ ¬ y ≤ 3)) (Or.inr (Or.inr (Or.inr h25)))] | rw [tF_f (P := (bU u ∨ bC c ∨ y < 0 ∨ ¬ y ≤ 3)) (fun q => q.elim (bU_no h2 h7) (fun q => q.elim (bC_no h11 (i_le.mpr h16)) (fun q => q.elim h20 (fun q => q h25))))]
      ·
        refine go_iload_n hC dX3_container_10 rfl ?_
        refine go_if_lt hC 28 dX3_container_11 (by decide) (fun h11 => ?_) (fun h11 => ?_)
        ·
          refine go_iconst (v := 1) hC dX3_container_28 (by decide) ?_
          refine go_goto hC 33 dX3_container_29 (by decide) ?_
          refine go_cast ?_ rfl hj33
          first | rw [tF_t (P := (bU u ∨ bC c ∨ y < 0 ∨ ¬ y ≤ 3)) (Or.inl (Or.inl h2))] | rw [tF_t (P := (bU u ∨ bC c ∨ y < 0 ∨ ¬ y ≤ 3)) (Or.inl (bU_of h7))] | rw [tF_t (P := (bU u ∨ bC c ∨ y < 0 ∨ ¬ y ≤ 3)) (Or.inr (Or.inl (Or.inl h11)))] | rw [tF_t (P := (bU u ∨ bC c ∨ y < 0 ∨ ¬ y ≤ 3)) (Or.inr (Or.inl (bC_of (fun q => i_le.mp q h16))))] | rw [tF_t (P := (bU u ∨ bC c ∨ y < 0 ∨ ¬ y ≤ 3)) (Or.inr (Or.inr (Or.inl h20)))] | rw [tF_t (P := (bU u ∨ bC c ∨ y < 0 ∨ ¬ y ≤ 3)) (Or.inr (Or.inr (Or.inr h25)))] | rw [tF_f (P := (bU u ∨ bC c ∨ y < 0 ∨ ¬ y ≤ 3)) (fun q => q.elim (bU_no h2 h7) (fun q => q.elim (bC_no h11 (i_le.mpr h16)) (fun q => q.elim h20 (fun q => q h25))))]
        ·
          refine go_iload_n hC dX3_container_14 rfl ?_
          refine go_iconst (v := 1) hC dX3_container_15 (by decide) ?_
          refine go_icmp_gt hC 28 dX3_container_16 (by decide) (fun h16 => ?_) (fun h16 => ?_)
          ·
            refine go_iconst (v := 1) hC dX3_container_28 (by decide) ?_
            refine go_goto hC 33 dX3_container_29 (by decide) ?_
            refine go_cast ?_ rfl hj33
            first | rw [tF_t (P := (bU u ∨ bC c ∨ y < 0 ∨ ¬ y ≤ 3)) (Or.inl (Or.inl h2))] | rw [tF_t (P := (bU u ∨ bC c ∨ y < 0 ∨ ¬ y ≤ 3)) (Or.inl (bU_of h7))] | rw [tF_t (P := (bU u ∨ bC c ∨ y < 0 ∨ ¬ y ≤ 3)) (Or.inr (Or.inl (Or.inl h11)))] | rw [tF_t (P := (bU u ∨ bC c ∨ y < 0 ∨ ¬ y ≤ 3)) (Or.inr (Or.inl (bC_of (fun q => i_le.mp q h16))))] | rw [tF_t (P := (bU u ∨ bC c ∨ y < 0 ∨ ¬ y ≤ 3)) (Or.inr (Or.inr (Or.inl h20)))] | rw [tF_t (P := (bU u ∨ bC c ∨ y < 0 ∨ ¬ y ≤ 3)) (Or.inr (Or.inr (Or.inr h25)))] | rw [tF_f (P := (bU u ∨ bC c ∨ y < 0 ∨ ¬ y ≤ 3)) (fun q => q.elim (bU_no h2 h7) (fun q => q.elim (bC_no h11 (i_le.mpr h16)) (fun q => q.elim h20 (fun q => q h25))))]
          ·
            refine go_iload_n hC dX3_container_19 rfl ?_
            refine go_if_lt hC 28 dX3_container_20 (by decide) (fun h20 => ?_) (fun h20 => ?_)
            ·
              refine go_iconst (v := 1) hC dX3_container_28 (by decide) ?_
              refine go_goto hC 33 dX3_container_29 (by decide) ?_
              refine go_cast ?_ rfl hj33
              first | rw [tF_t (P := (bU u ∨ bC c ∨ y < 0 ∨ ¬ y ≤ 3)) (Or.inl (Or.inl h2))] | rw [tF_t (P := (bU u ∨ bC c ∨ y < 0 ∨ ¬ y ≤ 3)) (Or.inl (bU_of h7))] | rw [tF_t (P := (bU u ∨ bC c ∨ y < 0 ∨ ¬ y ≤ 3)) (Or.inr (Or.inl (Or.inl h11)))] | rw [tF_t (P := (bU u ∨ bC c ∨ y < 0 ∨ ¬ y ≤ 3)) (Or.inr (Or.inl (bC_of (fun q => i_le.mp q h16))))] | rw [tF_t (P := (bU u ∨ bC c ∨ y < 0 ∨ ¬ y ≤ 3)) (Or.inr (Or.inr (Or.inl h20)))] | rw [tF_t (P := (bU u ∨ bC c ∨ y < 0 ∨ ¬ y ≤ 3)) (Or.inr (Or.inr (Or.inr h25)))] | rw [tF_f (P := (bU u ∨ bC c ∨ y < 0 ∨ ¬ y ≤ 3)) (fun q => q.elim (bU_no h2 h7) (fun q => q.elim (bC_no h11 (i_le.mpr h16)) (fun q => q.elim h20 (fun q => q h25))))]
            ·
              refine go_iload_n hC dX3_container_23 rfl ?_
              refine go_iconst (v := 3) hC dX3_container_24 (by decide) ?_
              refine go_icmp_le hC 32 dX3_container_25 (by decide) (fun h25 => ?_) (fun h25 => ?_)
              ·
                refine go_iconst (v := 0) hC dX3_container_32 (by decide) ?_
                refine go_cast ?_ rfl hj33
                first | rw [tF_t (P := (bU u ∨ bC c ∨ y < 0 ∨ ¬ y ≤ 3)) (Or.inl (Or.inl h2))] | rw [tF_t (P := (bU u ∨ bC c ∨ y < 0 ∨ ¬ y ≤ 3)) (Or.inl (bU_of h7))] | rw [tF_t (P := (bU u ∨ bC c ∨ y < 0 ∨ ¬ y ≤ 3)) (Or.inr (Or.inl (Or.inl h11)))] | rw [tF_t (P := (bU u ∨ bC c ∨ y < 0 ∨ ¬ y ≤ 3)) (Or.inr (Or.inl (bC_of (fun q => i_le.mp q h16))))] | rw [tF_t (P := (bU u ∨ bC c ∨ y < 0 ∨ ¬ y ≤ 3)) (Or.inr (Or.inr (Or.inl h20)))] | rw [tF_t (P := (bU u ∨ bC c ∨ y < 0 ∨ ¬ y ≤ 3)) (Or.inr (Or.inr (Or.inr h25)))] | rw [tF_f (P := (bU u ∨ bC c ∨ y < 0 ∨ ¬ y ≤ 3)) (fun q => q.elim (bU_no h2 h7) (fun q => q.elim (bC_no h11 (i_le.mpr h16)) (fun q => q.elim h20 (fun q => q h25))))]
              ·
                refine go_iconst (v := 1) hC dX3_container_28 (by decide) ?_
                refine go_goto hC 33 dX3_container_29 (by decide) ?_
                refine go_cast ?_ rfl hj33
                first | rw [tF_t (P := (bU u ∨ bC c ∨ y < 0 ∨ ¬ y ≤ 3)) (Or.inl (Or.inl h2))] | rw [tF_t (P := (bU u ∨ bC c ∨ y < 0 ∨ ¬ y ≤ 3)) (Or.inl (bU_of h7))] | rw [tF_t (P := (bU u ∨ bC c ∨ y < 0 ∨ ¬ y ≤ 3)) (Or.inr (Or.inl (Or.inl h11)))] | rw [tF_t (P := (bU u ∨ bC c ∨ y < 0 ∨ ¬ y ≤ 3)) (Or.inr (Or.inl (bC_of (fun q => i_le.mp q h16))))] | rw [tF_t (P := (bU u ∨ bC c ∨ y < 0 ∨ ¬ y ≤ 3)) (Or.inr (Or.inr (Or.inl h20)))] | rw [tF_t (P := (bU u ∨ bC c ∨ y < 0 ∨ ¬ y ≤ 3)) (Or.inr (Or.inr (Or.inr h25)))] | rw [tF_f (P := (bU u ∨ bC c ∨ y < 0 ∨ ¬ y ≤ 3)) (fun q => q.elim (bU_no h2 h7) (fun q => q.elim (bC_no h11 (i_le.mpr h16)) (fun q => q.elim h20 (fun q => q h25))))]
def cmM (G : gm_M) (n : Nat) (y : Int32) : Int32 := if y = 0 then G 33 n 0 else if y = 1 then G 34 n 0 / 2 else if y = 2 then G 34 n 0 - G 34 n 0 / 2 * 2 else G 35 n 0
theorem kwX3_came_3 : ∀ w ∈ wsX30, w ∈ wsX3_came := by decide +kernel
theorem lkX3_came_86 : Cond.fieldLink RX3 86 "SharedFibreModel" "cameNumber" "[I" ∈ wsX3_came := by decide +kernel
theorem lkX3_came_89 : Cond.fieldLink RX3 89 "SharedFibreModel" "cameFrom" "[I" ∈ wsX3_came := by decide +kernel
theorem lkX3_came_92 : Cond.fieldLink RX3 92 "SharedFibreModel" "cameFrame" "[I" ∈ wsX3_came := by decide +kernel
theorem lkX3_came_101 : Cond.fieldLink RX3 101 "SharedFibreModel" "thrown" "I" ∈ wsX3_came := by decide +kernel
theorem lkX3_came_167 : Cond.fieldLink RX3 167 "SharedFibreModel" "many" "I" ∈ wsX3_came := by decide +kernel
set_option maxHeartbeats 4000000 in
set_option maxRecDepth 100000 in
/-- the reference: X3_came -/
theorem c_X3_came (G : gm_M) (k y : Int32) (a : Nat) (ha : G 0 31 0 = nI a) (ha1 : a ≤ 100) : KC lyM yX3_came wsX3_came ({ frames := 0, cells := 0, slots := 0, locals := 0 }) (fun ad => [.ref (ad 0 0), .int k, .int y]) G (fun _ => some (.int (sdR ((k < 0 ∨ ¬ k < G 0 31 0) ∨ (y < 0 ∨ ¬ y ≤ 3)) (cmM G (uN k) y)))) (gm_up G 0 0 0 (cdF (k < 0 ∨ ¬ k < G 0 31 0) (y < 0 ∨ ¬ y ≤ 3))) := by
  refine KC.of_i (by decide) rfl rfl (fun _ => by simp) (fun _ => by simp [Value.category])  ?_
  intro X hC hR hX hE
  simp only [List.map_cons, List.map_nil, List.cons_append, List.nil_append, List.length_cons, List.length_nil, List.replicate, Nat.reduceAdd, Nat.reduceSub]
  refine go_aload_n hC dX3_came_0 rfl ?_
  refine go_joinI (jpc := 31) (cdF (k < 0 ∨ ¬ k < G 0 31 0) (y < 0 ∨ ¬ y ≤ 3)) ?_ (fun hj31 => ?_)
  ·
    refine go_puti (ci := 3) hC 0 kwX3_came_3 rfl tyX3 tyX3_ok nmX3 rfl (by decide) rfl lkX3_came_101 (by first | decide | (show _ < 5; omega) | (show _ < 10; omega) | omega) rfl rfl rfl dX3_came_31 ?_
    refine go_aload_n hC dX3_came_34 rfl ?_
    refine go_geti (ci := 3) hC 0 kwX3_came_3 rfl rfl (by decide) rfl lkX3_came_101 (by first | decide | (show _ < 5; omega) | (show _ < 10; omega) | omega) dX3_came_35 ?_
    refine go_if_eq hC 43 dX3_came_38 (by decide) (fun h38 => ?_) (fun h38 => ?_)
    ·
      rw [gm_us] at h38
      obtain ⟨hn1, hn2⟩ := cdF_e h38
      have hnz : ¬ ((k < 0 ∨ ¬ k < G 0 31 0) ∨ (y < 0 ∨ ¬ y ≤ 3)) := fun q => q.elim hn1 hn2
      obtain ⟨hue, hua⟩ := ixN (u := k) a (by omega) (fun q => hn1 (Or.inl q)) (by rw [← ha]; exact Classical.byContradiction (fun q => hn1 (Or.inr q)))
      refine go_iload_n hC dX3_came_43 rfl ?_
      refine go_if_ne hC 56 dX3_came_44 (by decide) (fun h44 => ?_) (fun h44 => ?_)
      ·
        refine go_iload_n hC dX3_came_56 rfl ?_
        refine go_iconst (v := 1) hC dX3_came_57 (by decide) ?_
        refine go_icmp_ne hC 72 dX3_came_58 (by decide) (fun h58 => ?_) (fun h58 => ?_)
        ·
          refine go_iload_n hC dX3_came_72 rfl ?_
          refine go_iconst (v := 2) hC dX3_came_73 (by decide) ?_
          refine go_icmp_ne hC 88 dX3_came_74 (by decide) (fun h74 => ?_) (fun h74 => ?_)
          ·
            refine go_aload_n hC dX3_came_88 rfl ?_
            refine go_getr (ci := 3) hC 34 kwX3_came_3 rfl rfl (by decide) rfl lkX3_came_92 (by first | decide | (show _ < 5; omega) | (show _ < 10; omega) | omega) dX3_came_89 ?_
            refine go_iload_n hC dX3_came_92 rfl ?_
            refine go_iald hC rfl (by first | decide | (show _ < 5; omega) | (show _ < 10; omega) | omega) (gm_in hue (by omega) (by decide)) (gm_cl hue (by omega)) dX3_came_93 ?_
            refine go_cast ?_ rfl (hE _ _ dX3_came_94)
            first | (rw [sdR_f hnz, cmM, if_pos h44, gm_un1 (show (33 : Nat) ≠ 0 by decide)]; done) | (rw [sdR_f hnz, cmM, if_neg h44, if_pos h58, gm_un1 (show (34 : Nat) ≠ 0 by decide)]; done) | (rw [sdR_f hnz, cmM, if_neg h44, if_neg h58, if_pos h74, gm_un1 (show (34 : Nat) ≠ 0 by decide)]; done) | (rw [sdR_f hnz, cmM, if_neg h44, if_neg h58, if_neg h74, gm_un1 (show (35 : Nat) ≠ 0 by decide)]; done)
          ·
            refine go_aload_n hC dX3_came_77 rfl ?_
            refine go_getr (ci := 3) hC 33 kwX3_came_3 rfl rfl (by decide) rfl lkX3_came_89 (by first | decide | (show _ < 5; omega) | (show _ < 10; omega) | omega) dX3_came_78 ?_
            refine go_iload_n hC dX3_came_81 rfl ?_
            refine go_iald hC rfl (by first | decide | (show _ < 5; omega) | (show _ < 10; omega) | omega) (gm_in hue (by omega) (by decide)) (gm_cl hue (by omega)) dX3_came_82 ?_
            refine go_iconst (v := 2) hC dX3_came_83 (by decide) ?_
            refine go_irem hC dX3_came_84 (by decide) ?_
            refine go_goto hC 94 dX3_came_85 (by decide) ?_
            refine go_cast ?_ rfl (hE _ _ dX3_came_94)
            first | (rw [sdR_f hnz, cmM, if_pos h44, gm_un1 (show (33 : Nat) ≠ 0 by decide)]; done) | (rw [sdR_f hnz, cmM, if_neg h44, if_pos h58, gm_un1 (show (34 : Nat) ≠ 0 by decide)]; done) | (rw [sdR_f hnz, cmM, if_neg h44, if_neg h58, if_pos h74, gm_un1 (show (34 : Nat) ≠ 0 by decide)]; done) | (rw [sdR_f hnz, cmM, if_neg h44, if_neg h58, if_neg h74, gm_un1 (show (35 : Nat) ≠ 0 by decide)]; done)
        ·
          refine go_aload_n hC dX3_came_61 rfl ?_
          refine go_getr (ci := 3) hC 33 kwX3_came_3 rfl rfl (by decide) rfl lkX3_came_89 (by first | decide | (show _ < 5; omega) | (show _ < 10; omega) | omega) dX3_came_62 ?_
          refine go_iload_n hC dX3_came_65 rfl ?_
          refine go_iald hC rfl (by first | decide | (show _ < 5; omega) | (show _ < 10; omega) | omega) (gm_in hue (by omega) (by decide)) (gm_cl hue (by omega)) dX3_came_66 ?_
          refine go_iconst (v := 2) hC dX3_came_67 (by decide) ?_
          refine go_idiv hC dX3_came_68 (by decide) ?_
          refine go_goto hC 94 dX3_came_69 (by decide) ?_
          refine go_cast ?_ rfl (hE _ _ dX3_came_94)
          first | (rw [sdR_f hnz, cmM, if_pos h44, gm_un1 (show (33 : Nat) ≠ 0 by decide)]; done) | (rw [sdR_f hnz, cmM, if_neg h44, if_pos h58, gm_un1 (show (34 : Nat) ≠ 0 by decide)]; done) | (rw [sdR_f hnz, cmM, if_neg h44, if_neg h58, if_pos h74, gm_un1 (show (34 : Nat) ≠ 0 by decide)]; done) | (rw [sdR_f hnz, cmM, if_neg h44, if_neg h58, if_neg h74, gm_un1 (show (35 : Nat) ≠ 0 by decide)]; done)
      ·
        refine go_aload_n hC dX3_came_47 rfl ?_
        refine go_getr (ci := 3) hC 32 kwX3_came_3 rfl rfl (by decide) rfl lkX3_came_86 (by first | decide | (show _ < 5; omega) | (show _ < 10; omega) | omega) dX3_came_48 ?_
        refine go_iload_n hC dX3_came_51 rfl ?_
        refine go_iald hC rfl (by first | decide | (show _ < 5; omega) | (show _ < 10; omega) | omega) (gm_in hue (by omega) (by decide)) (gm_cl hue (by omega)) dX3_came_52 ?_
        refine go_goto hC 94 dX3_came_53 (by decide) ?_
        refine go_cast ?_ rfl (hE _ _ dX3_came_94)
        first | (rw [sdR_f hnz, cmM, if_pos h44, gm_un1 (show (33 : Nat) ≠ 0 by decide)]; done) | (rw [sdR_f hnz, cmM, if_neg h44, if_pos h58, gm_un1 (show (34 : Nat) ≠ 0 by decide)]; done) | (rw [sdR_f hnz, cmM, if_neg h44, if_neg h58, if_pos h74, gm_un1 (show (34 : Nat) ≠ 0 by decide)]; done) | (rw [sdR_f hnz, cmM, if_neg h44, if_neg h58, if_neg h74, gm_un1 (show (35 : Nat) ≠ 0 by decide)]; done)
    ·
      rw [gm_us] at h38
      have hz := cdF_ne h38
      refine go_iconst (v := 0) hC dX3_came_41 (by decide) ?_
      refine go_cast ?_ rfl (hE _ _ dX3_came_42)
      rw [sdR_t hz]
  ·
    refine go_iload_n hC dX3_came_1 rfl ?_
    refine go_if_lt hC 13 dX3_came_2 (by decide) (fun h2 => ?_) (fun h2 => ?_)
    ·
      refine go_iconst (v := 1) hC dX3_came_13 (by decide) ?_
      refine go_goto hC 31 dX3_came_14 (by decide) ?_
      refine go_cast ?_ rfl hj31
      first | rw [cdF_1 (P := (k < 0 ∨ ¬ k < G 0 31 0)) (Q := (y < 0 ∨ ¬ y ≤ 3)) (Or.inl h2)] | rw [cdF_1 (P := (k < 0 ∨ ¬ k < G 0 31 0)) (Q := (y < 0 ∨ ¬ y ≤ 3)) (Or.inr h10)] | rw [cdF_2 (P := (k < 0 ∨ ¬ k < G 0 31 0)) (Q := (y < 0 ∨ ¬ y ≤ 3)) (fun q => q.elim h2 (fun q => q h10)) (Or.inl h18)] | rw [cdF_2 (P := (k < 0 ∨ ¬ k < G 0 31 0)) (Q := (y < 0 ∨ ¬ y ≤ 3)) (fun q => q.elim h2 (fun q => q h10)) (Or.inr h23)] | rw [cdF_0 (P := (k < 0 ∨ ¬ k < G 0 31 0)) (Q := (y < 0 ∨ ¬ y ≤ 3)) (fun q => q.elim h2 (fun q => q h10)) (fun q => q.elim h18 (fun q => q h23))]
    ·
      refine go_iload_n hC dX3_came_5 rfl ?_
      refine go_aload_n hC dX3_came_6 rfl ?_
      refine go_geti (ci := 3) hC 31 kwX3_came_3 rfl rfl (by decide) rfl lkX3_came_167 (by first | decide | (show _ < 5; omega) | (show _ < 10; omega) | omega) dX3_came_7 ?_
      refine go_icmp_lt hC 17 dX3_came_10 (by decide) (fun h10 => ?_) (fun h10 => ?_)
      ·
        refine go_iload_n hC dX3_came_17 rfl ?_
        refine go_if_lt hC 26 dX3_came_18 (by decide) (fun h18 => ?_) (fun h18 => ?_)
        ·
          refine go_iconst (v := 2) hC dX3_came_26 (by decide) ?_
          refine go_goto hC 31 dX3_came_27 (by decide) ?_
          refine go_cast ?_ rfl hj31
          first | rw [cdF_1 (P := (k < 0 ∨ ¬ k < G 0 31 0)) (Q := (y < 0 ∨ ¬ y ≤ 3)) (Or.inl h2)] | rw [cdF_1 (P := (k < 0 ∨ ¬ k < G 0 31 0)) (Q := (y < 0 ∨ ¬ y ≤ 3)) (Or.inr h10)] | rw [cdF_2 (P := (k < 0 ∨ ¬ k < G 0 31 0)) (Q := (y < 0 ∨ ¬ y ≤ 3)) (fun q => q.elim h2 (fun q => q h10)) (Or.inl h18)] | rw [cdF_2 (P := (k < 0 ∨ ¬ k < G 0 31 0)) (Q := (y < 0 ∨ ¬ y ≤ 3)) (fun q => q.elim h2 (fun q => q h10)) (Or.inr h23)] | rw [cdF_0 (P := (k < 0 ∨ ¬ k < G 0 31 0)) (Q := (y < 0 ∨ ¬ y ≤ 3)) (fun q => q.elim h2 (fun q => q h10)) (fun q => q.elim h18 (fun q => q h23))]
        ·
          refine go_iload_n hC dX3_came_21 rfl ?_
          refine go_iconst (v := 3) hC dX3_came_22 (by decide) ?_
          refine go_icmp_le hC 30 dX3_came_23 (by decide) (fun h23 => ?_) (fun h23 => ?_)
          ·
            refine go_iconst (v := 0) hC dX3_came_30 (by decide) ?_
            refine go_cast ?_ rfl hj31
            first | rw [cdF_1 (P := (k < 0 ∨ ¬ k < G 0 31 0)) (Q := (y < 0 ∨ ¬ y ≤ 3)) (Or.inl h2)] | rw [cdF_1 (P := (k < 0 ∨ ¬ k < G 0 31 0)) (Q := (y < 0 ∨ ¬ y ≤ 3)) (Or.inr h10)] | rw [cdF_2 (P := (k < 0 ∨ ¬ k < G 0 31 0)) (Q := (y < 0 ∨ ¬ y ≤ 3)) (fun q => q.elim h2 (fun q => q h10)) (Or.inl h18)] | rw [cdF_2 (P := (k < 0 ∨ ¬ k < G 0 31 0)) (Q := (y < 0 ∨ ¬ y ≤ 3)) (fun q => q.elim h2 (fun q => q h10)) (Or.inr h23)] | rw [cdF_0 (P := (k < 0 ∨ ¬ k < G 0 31 0)) (Q := (y < 0 ∨ ¬ y ≤ 3)) (fun q => q.elim h2 (fun q => q h10)) (fun q => q.elim h18 (fun q => q h23))]
          ·
            refine go_iconst (v := 2) hC dX3_came_26 (by decide) ?_
            refine go_goto hC 31 dX3_came_27 (by decide) ?_
            refine go_cast ?_ rfl hj31
            first | rw [cdF_1 (P := (k < 0 ∨ ¬ k < G 0 31 0)) (Q := (y < 0 ∨ ¬ y ≤ 3)) (Or.inl h2)] | rw [cdF_1 (P := (k < 0 ∨ ¬ k < G 0 31 0)) (Q := (y < 0 ∨ ¬ y ≤ 3)) (Or.inr h10)] | rw [cdF_2 (P := (k < 0 ∨ ¬ k < G 0 31 0)) (Q := (y < 0 ∨ ¬ y ≤ 3)) (fun q => q.elim h2 (fun q => q h10)) (Or.inl h18)] | rw [cdF_2 (P := (k < 0 ∨ ¬ k < G 0 31 0)) (Q := (y < 0 ∨ ¬ y ≤ 3)) (fun q => q.elim h2 (fun q => q h10)) (Or.inr h23)] | rw [cdF_0 (P := (k < 0 ∨ ¬ k < G 0 31 0)) (Q := (y < 0 ∨ ¬ y ≤ 3)) (fun q => q.elim h2 (fun q => q h10)) (fun q => q.elim h18 (fun q => q h23))]
      ·
        refine go_iconst (v := 1) hC dX3_came_13 (by decide) ?_
        refine go_goto hC 31 dX3_came_14 (by decide) ?_
        refine go_cast ?_ rfl hj31
        first | rw [cdF_1 (P := (k < 0 ∨ ¬ k < G 0 31 0)) (Q := (y < 0 ∨ ¬ y ≤ 3)) (Or.inl h2)] | rw [cdF_1 (P := (k < 0 ∨ ¬ k < G 0 31 0)) (Q := (y < 0 ∨ ¬ y ≤ 3)) (Or.inr h10)] | rw [cdF_2 (P := (k < 0 ∨ ¬ k < G 0 31 0)) (Q := (y < 0 ∨ ¬ y ≤ 3)) (fun q => q.elim h2 (fun q => q h10)) (Or.inl h18)] | rw [cdF_2 (P := (k < 0 ∨ ¬ k < G 0 31 0)) (Q := (y < 0 ∨ ¬ y ≤ 3)) (fun q => q.elim h2 (fun q => q h10)) (Or.inr h23)] | rw [cdF_0 (P := (k < 0 ∨ ¬ k < G 0 31 0)) (Q := (y < 0 ∨ ¬ y ≤ 3)) (fun q => q.elim h2 (fun q => q h10)) (fun q => q.elim h18 (fun q => q h23))]
def coM (G : gm_M) (y : Int32) : Int32 := if y = 0 then G 0 31 0 else if y = 1 then G 0 35 0 else if y = 2 then G 0 11 0 else if y = 3 then G 0 7 0 else if y = 4 then G 0 36 0 else if y = 5 then G 0 37 0 else if y = 6 then G 0 38 0 else 0
theorem kwX3_count_3 : ∀ w ∈ wsX30, w ∈ wsX3_count := by decide +kernel
theorem lkX3_count_101 : Cond.fieldLink RX3 101 "SharedFibreModel" "thrown" "I" ∈ wsX3_count := by decide +kernel
theorem lkX3_count_107 : Cond.fieldLink RX3 107 "SharedFibreModel" "active" "I" ∈ wsX3_count := by decide +kernel
theorem lkX3_count_149 : Cond.fieldLink RX3 149 "SharedFibreModel" "drifted" "I" ∈ wsX3_count := by decide +kernel
theorem lkX3_count_152 : Cond.fieldLink RX3 152 "SharedFibreModel" "free" "I" ∈ wsX3_count := by decide +kernel
theorem lkX3_count_158 : Cond.fieldLink RX3 158 "SharedFibreModel" "met" "I" ∈ wsX3_count := by decide +kernel
theorem lkX3_count_164 : Cond.fieldLink RX3 164 "SharedFibreModel" "lost" "I" ∈ wsX3_count := by decide +kernel
theorem lkX3_count_167 : Cond.fieldLink RX3 167 "SharedFibreModel" "many" "I" ∈ wsX3_count := by decide +kernel
theorem lkX3_count_170 : Cond.fieldLink RX3 170 "SharedFibreModel" "frames" "I" ∈ wsX3_count := by decide +kernel
set_option maxHeartbeats 4000000 in
set_option maxRecDepth 100000 in
/-- the reference: X3_count -/
theorem c_X3_count (G : gm_M) (y : Int32) : KC lyM yX3_count wsX3_count ({ frames := 0, cells := 0, slots := 0, locals := 0 }) (fun ad => [.ref (ad 0 0), .int y]) G (fun _ => some (.int (coM G y))) (gm_up G 0 0 0 (tF (y < 0 ∨ ¬ y ≤ 6))) := by
  refine KC.of_i (by decide) rfl rfl (fun _ => by simp) (fun _ => by simp [Value.category])  ?_
  intro X hC hR hX hE
  simp only [List.map_cons, List.map_nil, List.cons_append, List.nil_append, List.length_cons, List.length_nil, List.replicate, Nat.reduceAdd, Nat.reduceSub]
  refine go_aload_n hC dX3_count_0 rfl ?_
  refine go_joinI (jpc := 16) (tF (y < 0 ∨ ¬ y ≤ 6)) ?_ (fun hj16 => ?_)
  ·
    refine go_puti (ci := 3) hC 0 kwX3_count_3 rfl tyX3 tyX3_ok nmX3 rfl (by decide) rfl lkX3_count_101 (by first | decide | (show _ < 5; omega) | (show _ < 10; omega) | omega) rfl rfl rfl dX3_count_16 ?_
    refine go_iload_n hC dX3_count_19 rfl ?_
    by_cases w0 : y = 0
    ·
      subst w0
      refine go_tabIn (off := 44) hC 64 dX3_count_20 (by decide) (by decide) (by decide) (by decide) ?_
      refine go_aload_n hC dX3_count_64 rfl ?_
      refine go_geti (ci := 3) hC 31 kwX3_count_3 rfl rfl (by decide) rfl lkX3_count_167 (by first | decide | (show _ < 5; omega) | (show _ < 10; omega) | omega) dX3_count_65 ?_
      refine go_cast ?_ rfl (hE _ _ dX3_count_68)
      rw [gm_un2 (show (31 : Nat) ≠ 0 by decide)]
      rfl
    by_cases w1 : y = 1
    ·
      subst w1
      refine go_tabIn (off := 49) hC 69 dX3_count_20 (by decide) (by decide) (by decide) (by decide) ?_
      refine go_aload_n hC dX3_count_69 rfl ?_
      refine go_geti (ci := 3) hC 35 kwX3_count_3 rfl rfl (by decide) rfl lkX3_count_164 (by first | decide | (show _ < 5; omega) | (show _ < 10; omega) | omega) dX3_count_70 ?_
      refine go_cast ?_ rfl (hE _ _ dX3_count_73)
      rw [gm_un2 (show (35 : Nat) ≠ 0 by decide)]
      rfl
    by_cases w2 : y = 2
    ·
      subst w2
      refine go_tabIn (off := 54) hC 74 dX3_count_20 (by decide) (by decide) (by decide) (by decide) ?_
      refine go_aload_n hC dX3_count_74 rfl ?_
      refine go_geti (ci := 3) hC 11 kwX3_count_3 rfl rfl (by decide) rfl lkX3_count_170 (by first | decide | (show _ < 5; omega) | (show _ < 10; omega) | omega) dX3_count_75 ?_
      refine go_cast ?_ rfl (hE _ _ dX3_count_78)
      rw [gm_un2 (show (11 : Nat) ≠ 0 by decide)]
      rfl
    by_cases w3 : y = 3
    ·
      subst w3
      refine go_tabIn (off := 59) hC 79 dX3_count_20 (by decide) (by decide) (by decide) (by decide) ?_
      refine go_aload_n hC dX3_count_79 rfl ?_
      refine go_geti (ci := 3) hC 7 kwX3_count_3 rfl rfl (by decide) rfl lkX3_count_107 (by first | decide | (show _ < 5; omega) | (show _ < 10; omega) | omega) dX3_count_80 ?_
      refine go_cast ?_ rfl (hE _ _ dX3_count_83)
      rw [gm_un2 (show (7 : Nat) ≠ 0 by decide)]
      rfl
    by_cases w4 : y = 4
    ·
      subst w4
      refine go_tabIn (off := 64) hC 84 dX3_count_20 (by decide) (by decide) (by decide) (by decide) ?_
      refine go_aload_n hC dX3_count_84 rfl ?_
      refine go_geti (ci := 3) hC 36 kwX3_count_3 rfl rfl (by decide) rfl lkX3_count_158 (by first | decide | (show _ < 5; omega) | (show _ < 10; omega) | omega) dX3_count_85 ?_
      refine go_cast ?_ rfl (hE _ _ dX3_count_88)
      rw [gm_un2 (show (36 : Nat) ≠ 0 by decide)]
      rfl
    by_cases w5 : y = 5
    ·
      subst w5
      refine go_tabIn (off := 69) hC 89 dX3_count_20 (by decide) (by decide) (by decide) (by decide) ?_
      refine go_aload_n hC dX3_count_89 rfl ?_
      refine go_geti (ci := 3) hC 37 kwX3_count_3 rfl rfl (by decide) rfl lkX3_count_152 (by first | decide | (show _ < 5; omega) | (show _ < 10; omega) | omega) dX3_count_90 ?_
      refine go_cast ?_ rfl (hE _ _ dX3_count_93)
      rw [gm_un2 (show (37 : Nat) ≠ 0 by decide)]
      rfl
    by_cases w6 : y = 6
    ·
      subst w6
      refine go_tabIn (off := 74) hC 94 dX3_count_20 (by decide) (by decide) (by decide) (by decide) ?_
      refine go_aload_n hC dX3_count_94 rfl ?_
      refine go_geti (ci := 3) hC 38 kwX3_count_3 rfl rfl (by decide) rfl lkX3_count_149 (by first | decide | (show _ < 5; omega) | (show _ < 10; omega) | omega) dX3_count_95 ?_
      refine go_cast ?_ rfl (hE _ _ dX3_count_98)
      rw [gm_un2 (show (38 : Nat) ≠ 0 by decide)]
      rfl
    have hsw := swOut y 6 (by decide) (fun k hk => by rcases (show k = 0 ∨ k = 1 ∨ k = 2 ∨ k = 3 ∨ k = 4 ∨ k = 5 ∨ k = 6 by omega) with rfl | rfl | rfl | rfl | rfl | rfl | rfl; exact w0; exact w1; exact w2; exact w3; exact w4; exact w5; exact w6)
    refine go_tabOut hC 99 dX3_count_20 hsw (by decide) ?_
    refine go_iconst (v := 0) hC dX3_count_99 (by decide) ?_
    refine go_cast ?_ rfl (hE _ _ dX3_count_100)
    rw [coM, if_neg w0, if_neg w1, if_neg w2, if_neg w3, if_neg w4, if_neg w5, if_neg w6]
  ·
    refine go_iload_n hC dX3_count_1 rfl ?_
    refine go_if_lt hC 11 dX3_count_2 (by decide) (fun h2 => ?_) (fun h2 => ?_)
    ·
      refine go_iconst (v := 1) hC dX3_count_11 (by decide) ?_
      refine go_goto hC 16 dX3_count_12 (by decide) ?_
      refine go_cast ?_ rfl hj16
      first | rw [tF_t (P := (y < 0 ∨ ¬ y ≤ 6)) (Or.inl h2)] | rw [tF_t (P := (y < 0 ∨ ¬ y ≤ 6)) (Or.inr h8)] | rw [tF_f (P := (y < 0 ∨ ¬ y ≤ 6)) (fun q => q.elim h2 (fun q => q h8))]
    ·
      refine go_iload_n hC dX3_count_5 rfl ?_
      refine go_bipush (v := 6) hC dX3_count_6 (by decide) ?_
      refine go_icmp_le hC 15 dX3_count_8 (by decide) (fun h8 => ?_) (fun h8 => ?_)
      ·
        refine go_iconst (v := 0) hC dX3_count_15 (by decide) ?_
        refine go_cast ?_ rfl hj16
        first | rw [tF_t (P := (y < 0 ∨ ¬ y ≤ 6)) (Or.inl h2)] | rw [tF_t (P := (y < 0 ∨ ¬ y ≤ 6)) (Or.inr h8)] | rw [tF_f (P := (y < 0 ∨ ¬ y ≤ 6)) (fun q => q.elim h2 (fun q => q h8))]
      ·
        refine go_iconst (v := 1) hC dX3_count_11 (by decide) ?_
        refine go_goto hC 16 dX3_count_12 (by decide) ?_
        refine go_cast ?_ rfl hj16
        first | rw [tF_t (P := (y < 0 ∨ ¬ y ≤ 6)) (Or.inl h2)] | rw [tF_t (P := (y < 0 ∨ ¬ y ≤ 6)) (Or.inr h8)] | rw [tF_f (P := (y < 0 ∨ ¬ y ≤ 6)) (fun q => q.elim h2 (fun q => q h8))]
def uD (G : gm_M) : Nat → Int32
  | 0 => -1
  | j + 1 => if G 2 (4 - j) 0 = 0 then nI (4 - j) else uD G j
theorem uD_in (G : gm_M) : ∀ j, j ≤ 5 → uD G j = -1 ∨ ∃ n, n < 5 ∧ uD G j = nI n
  | 0, _ => Or.inl rfl
  | j + 1, h => by
    unfold uD
    split
    · exact Or.inr ⟨4 - j, by omega, rfl⟩
    · exact uD_in G j (by omega)
theorem uD_ix {G : gm_M} (h : ¬ uD G 5 < 0) : uD G 5 = nI (uN (uD G 5)) ∧ uN (uD G 5) < 5 := by
  rcases uD_in G 5 (by decide) with q | ⟨n, hn, q⟩
  · rw [q] at h; exact absurd (by decide) h
  · rw [q, show uN (nI n) = n from nI_clamp (by omega)]
    exact ⟨rfl, hn⟩
theorem dnS (j : Nat) (h : j < 5) : nI (4 - j) + -1 = nI 4 - nI (j + 1) := by
  rcases (show j = 0 ∨ j = 1 ∨ j = 2 ∨ j = 3 ∨ j = 4 by omega) with rfl | rfl | rfl | rfl | rfl <;> decide
theorem dn0 (j : Nat) (h : j < 5) : nI 4 - nI j = nI (4 - j) := by
  rcases (show j = 0 ∨ j = 1 ∨ j = 2 ∨ j = 3 ∨ j = 4 by omega) with rfl | rfl | rfl | rfl | rfl <;> decide
abbrev pB0 (a y : Int32) : Prop := a < 0 ∨ 9999 < a ∨ y < 100 ∨ ¬ y ≤ 600
abbrev pB (G : gm_M) (a y : Int32) (j : Nat) : Prop := pB0 a y ∨ ∃ k, 5 - j ≤ k ∧ k < 5 ∧ ¬ G 2 k 0 = 0 ∧ G 3 k 0 = a
theorem pB_0 {G : gm_M} {a y : Int32} : pB G a y 0 ↔ pB0 a y := ⟨fun q => q.elim id (fun ⟨k, h1, h2, _⟩ => by omega), Or.inl⟩
theorem pB_s {G : gm_M} {a y : Int32} {j : Nat} (hj : j < 5) : pB G a y (j + 1) ↔ (pB G a y j ∨ (¬ G 2 (4 - j) 0 = 0 ∧ G 3 (4 - j) 0 = a)) := by
  constructor
  · rintro (q | ⟨k, h1, h2, h3⟩)
    · exact Or.inl (Or.inl q)
    · by_cases hk : k = 4 - j
      · subst hk; exact Or.inr h3
      · exact Or.inl (Or.inr ⟨k, by omega, h2, h3⟩)
  · rintro ((q | ⟨k, h1, h2, h3⟩) | q)
    · exact Or.inl q
    · exact Or.inr ⟨k, by omega, h2, h3⟩
    · exact Or.inr ⟨4 - j, by omega, by omega, q⟩
def plM (G : gm_M) (n : Nat) (a y : Int32) : gm_M := emM (emM (gm_up (gm_up (gm_up (gm_up (gm_up (gm_up (gm_up (gm_up (gm_up (gm_up (gm_up (gm_up (gm_up G 0 0 0 0) 2 n 0 1) 3 n 0 a) 4 n 0 y) 5 n 0 0) 6 n 0 0) 7 n 0 0) 13 n 0 0) 14 n 0 (-1)) 15 n 0 0) 16 n 0 0) 18 n 0 0) 19 n 0 0) (2 * n)) (2 * n + 1)
theorem nI_nn {n : Nat} (h : n < 2 ^ 31) : ¬ nI n < 0 := by rw [Int32.lt_iff_toInt_lt, nI_toInt h]; simp
theorem kwX3_plug_3 : ∀ w ∈ wsX30, w ∈ wsX3_plug := by decide +kernel
theorem lkX3_plug_7 : Cond.fieldLink RX3 7 "SharedFibreModel" "state" "[I" ∈ wsX3_plug := by decide +kernel
theorem lkX3_plug_13 : Cond.fieldLink RX3 13 "SharedFibreModel" "serial" "[I" ∈ wsX3_plug := by decide +kernel
theorem lkX3_plug_16 : Cond.fieldLink RX3 16 "SharedFibreModel" "way" "[I" ∈ wsX3_plug := by decide +kernel
theorem lkX3_plug_19 : Cond.fieldLink RX3 19 "SharedFibreModel" "answered" "[I" ∈ wsX3_plug := by decide +kernel
theorem lkX3_plug_22 : Cond.fieldLink RX3 22 "SharedFibreModel" "hold" "[I" ∈ wsX3_plug := by decide +kernel
theorem lkX3_plug_25 : Cond.fieldLink RX3 25 "SharedFibreModel" "spoilt" "[Z" ∈ wsX3_plug := by decide +kernel
theorem lkX3_plug_32 : Cond.fieldLink RX3 32 "SharedFibreModel" "inForce" "[I" ∈ wsX3_plug := by decide +kernel
theorem lkX3_plug_35 : Cond.fieldLink RX3 35 "SharedFibreModel" "waiting" "[I" ∈ wsX3_plug := by decide +kernel
theorem lkX3_plug_38 : Cond.fieldLink RX3 38 "SharedFibreModel" "told" "[I" ∈ wsX3_plug := by decide +kernel
theorem lkX3_plug_41 : Cond.fieldLink RX3 41 "SharedFibreModel" "hasWord" "[Z" ∈ wsX3_plug := by decide +kernel
theorem lkX3_plug_47 : Cond.fieldLink RX3 47 "SharedFibreModel" "made" "[I" ∈ wsX3_plug := by decide +kernel
theorem lkX3_plug_50 : Cond.fieldLink RX3 50 "SharedFibreModel" "sentAs" "[I" ∈ wsX3_plug := by decide +kernel
theorem lkX3_plug_101 : Cond.fieldLink RX3 101 "SharedFibreModel" "thrown" "I" ∈ wsX3_plug := by decide +kernel
set_option maxHeartbeats 4000000 in
set_option maxRecDepth 100000 in
/-- the reference: X3_plug -/
theorem c_X3_plug (G : gm_M) (a y : Int32) : KC lyM yX3_plug wsX3_plug ({ frames := 1, cells := 0, slots := 0, locals := 21 }) (fun ad => [.ref (ad 0 0), .int a, .int y]) G (fun _ => some (.int (sdR (pB G a y 5 ∨ uD G 5 < 0) (uD G 5)))) (tM (pB G a y 5 ∨ uD G 5 < 0) (gm_up G 0 0 0 (cdF (pB G a y 5) (uD G 5 < 0))) (plM G (uN (uD G 5)) a y)) := by
  refine KC.of_i (by decide) rfl rfl (fun _ => by simp) (fun _ => by simp [Value.category])  ?_
  intro X hC hR hX hE
  simp only [List.map_cons, List.map_nil, List.cons_append, List.nil_append, List.length_cons, List.length_nil, List.replicate, Nat.reduceAdd, Nat.reduceSub]
  refine go_joinI (jpc := 29) (tF (pB G a y 0)) ?_ (fun hj29 => ?_)
  ·
    refine go_istore_n hC 3 dX3_plug_29 rfl (Nat.le_of_ble_eq_true rfl) ?_
    simp only [gm_s0, gm_s1]
    refine go_iconst (v := (-1)) hC dX3_plug_30 (by decide) ?_
    refine go_istore hC dX3_plug_31 (Nat.le_of_ble_eq_true rfl) ?_
    simp only [gm_s0, gm_s1]
    refine go_iconst (v := 4) hC dX3_plug_33 (by decide) ?_
    refine go_istore hC dX3_plug_34 (Nat.le_of_ble_eq_true rfl) ?_
    simp only [gm_s0, gm_s1]
    have lp36 : (fun j : Nat => GO lyM X 0 0 36 [some (.ref (gm_ad X 0 0)), some (.int a), some (.int y), some (.int (tF (pB G a y j))), some (.int (uD G j)), some (.int (nI 4 - nI j))] [] G) 0 := by
      refine loopN (5) (fun j : Nat => GO lyM X 0 0 36 [some (.ref (gm_ad X 0 0)), some (.int a), some (.int y), some (.int (tF (pB G a y j))), some (.int (uD G j)), some (.int (nI 4 - nI j))] [] G) ?_ (fun j hj ih => ?_)
      · try dsimp only
        refine go_iload hC dX3_plug_36 rfl ?_
        refine go_if_lt hC 97 dX3_plug_38 (by decide) (fun h38 => ?_) (fun h38 => ?_)
        ·
          refine go_aload_n hC dX3_plug_97 rfl ?_
          refine go_joinI (jpc := 116) (cdF (pB G a y 5) (uD G 5 < 0)) ?_ (fun hj116 => ?_)
          ·
            refine go_puti (ci := 3) hC 0 kwX3_plug_3 rfl tyX3 tyX3_ok nmX3 rfl (by decide) rfl lkX3_plug_101 (by first | decide | (show _ < 5; omega) | (show _ < 10; omega) | omega) rfl rfl rfl dX3_plug_116 ?_
            refine go_aload_n hC dX3_plug_119 rfl ?_
            refine go_geti (ci := 3) hC 0 kwX3_plug_3 rfl rfl (by decide) rfl lkX3_plug_101 (by first | decide | (show _ < 5; omega) | (show _ < 10; omega) | omega) dX3_plug_120 ?_
            refine go_if_eq hC 128 dX3_plug_123 (by decide) (fun h123 => ?_) (fun h123 => ?_)
            ·
              rw [gm_us] at h123
              rw [h123]
              obtain ⟨hn1, hn2⟩ := cdF_e h123
              have hnz : ¬ (pB G a y 5 ∨ uD G 5 < 0) := fun q => q.elim hn1 hn2
              obtain ⟨hue, hu5⟩ := uD_ix hn2
              refine go_loc (L' := [some (.ref (gm_ad X 0 0)), some (.int a), some (.int y), some (.int (tF (pB G a y 5))), some (.int (nI (uN (uD G 5)))), some (.int (nI 4 - nI 5))]) (by rw [← hue]) ?_
              skip
              refine go_aload_n hC dX3_plug_128 rfl ?_
              refine go_getr (ci := 3) hC 1 kwX3_plug_3 rfl rfl (by decide) rfl lkX3_plug_7 (by first | decide | (show _ < 5; omega) | (show _ < 10; omega) | omega) dX3_plug_129 ?_
              refine go_iload hC dX3_plug_132 rfl ?_
              refine go_iconst (v := 1) hC dX3_plug_134 (by decide) ?_
              refine go_iast hC rfl (by first | decide | (show _ < 5; omega) | (show _ < 10; omega) | omega) (gm_in rfl (by omega) (by decide)) (gm_cl rfl (by omega)) dX3_plug_135 ?_
              refine go_aload_n hC dX3_plug_136 rfl ?_
              refine go_getr (ci := 3) hC 2 kwX3_plug_3 rfl rfl (by decide) rfl lkX3_plug_13 (by first | decide | (show _ < 5; omega) | (show _ < 10; omega) | omega) dX3_plug_137 ?_
              refine go_iload hC dX3_plug_140 rfl ?_
              refine go_iload_n hC dX3_plug_142 rfl ?_
              refine go_iast hC rfl (by first | decide | (show _ < 5; omega) | (show _ < 10; omega) | omega) (gm_in rfl (by omega) (by decide)) (gm_cl rfl (by omega)) dX3_plug_143 ?_
              refine go_aload_n hC dX3_plug_144 rfl ?_
              refine go_getr (ci := 3) hC 3 kwX3_plug_3 rfl rfl (by decide) rfl lkX3_plug_16 (by first | decide | (show _ < 5; omega) | (show _ < 10; omega) | omega) dX3_plug_145 ?_
              refine go_iload hC dX3_plug_148 rfl ?_
              refine go_iload_n hC dX3_plug_150 rfl ?_
              refine go_iast hC rfl (by first | decide | (show _ < 5; omega) | (show _ < 10; omega) | omega) (gm_in rfl (by omega) (by decide)) (gm_cl rfl (by omega)) dX3_plug_151 ?_
              refine go_aload_n hC dX3_plug_152 rfl ?_
              refine go_getr (ci := 3) hC 4 kwX3_plug_3 rfl rfl (by decide) rfl lkX3_plug_19 (by first | decide | (show _ < 5; omega) | (show _ < 10; omega) | omega) dX3_plug_153 ?_
              refine go_iload hC dX3_plug_156 rfl ?_
              refine go_iconst (v := 0) hC dX3_plug_158 (by decide) ?_
              refine go_iast hC rfl (by first | decide | (show _ < 5; omega) | (show _ < 10; omega) | omega) (gm_in rfl (by omega) (by decide)) (gm_cl rfl (by omega)) dX3_plug_159 ?_
              refine go_aload_n hC dX3_plug_160 rfl ?_
              refine go_getr (ci := 3) hC 5 kwX3_plug_3 rfl rfl (by decide) rfl lkX3_plug_22 (by first | decide | (show _ < 5; omega) | (show _ < 10; omega) | omega) dX3_plug_161 ?_
              refine go_iload hC dX3_plug_164 rfl ?_
              refine go_iconst (v := 0) hC dX3_plug_166 (by decide) ?_
              refine go_iast hC rfl (by first | decide | (show _ < 5; omega) | (show _ < 10; omega) | omega) (gm_in rfl (by omega) (by decide)) (gm_cl rfl (by omega)) dX3_plug_167 ?_
              refine go_aload_n hC dX3_plug_168 rfl ?_
              refine go_getr (ci := 3) hC 6 kwX3_plug_3 rfl rfl (by decide) rfl lkX3_plug_25 (by first | decide | (show _ < 5; omega) | (show _ < 10; omega) | omega) dX3_plug_169 ?_
              refine go_iload hC dX3_plug_172 rfl ?_
              refine go_iconst (v := 0) hC dX3_plug_174 (by decide) ?_
              refine go_zast hC rfl (by first | decide | (show _ < 5; omega) | (show _ < 10; omega) | omega) (gm_in rfl (by omega) (by decide)) (gm_cl rfl (by omega)) dX3_plug_175 ?_
              refine go_aload_n hC dX3_plug_176 rfl ?_
              refine go_getr (ci := 3) hC 12 kwX3_plug_3 rfl rfl (by decide) rfl lkX3_plug_32 (by first | decide | (show _ < 5; omega) | (show _ < 10; omega) | omega) dX3_plug_177 ?_
              refine go_iload hC dX3_plug_180 rfl ?_
              refine go_iconst (v := 0) hC dX3_plug_182 (by decide) ?_
              refine go_iast hC rfl (by first | decide | (show _ < 5; omega) | (show _ < 10; omega) | omega) (gm_in rfl (by omega) (by decide)) (gm_cl rfl (by omega)) dX3_plug_183 ?_
              refine go_aload_n hC dX3_plug_184 rfl ?_
              refine go_getr (ci := 3) hC 13 kwX3_plug_3 rfl rfl (by decide) rfl lkX3_plug_35 (by first | decide | (show _ < 5; omega) | (show _ < 10; omega) | omega) dX3_plug_185 ?_
              refine go_iload hC dX3_plug_188 rfl ?_
              refine go_iconst (v := (-1)) hC dX3_plug_190 (by decide) ?_
              refine go_iast hC rfl (by first | decide | (show _ < 5; omega) | (show _ < 10; omega) | omega) (gm_in rfl (by omega) (by decide)) (gm_cl rfl (by omega)) dX3_plug_191 ?_
              refine go_aload_n hC dX3_plug_192 rfl ?_
              refine go_getr (ci := 3) hC 14 kwX3_plug_3 rfl rfl (by decide) rfl lkX3_plug_38 (by first | decide | (show _ < 5; omega) | (show _ < 10; omega) | omega) dX3_plug_193 ?_
              refine go_iload hC dX3_plug_196 rfl ?_
              refine go_iconst (v := 0) hC dX3_plug_198 (by decide) ?_
              refine go_iast hC rfl (by first | decide | (show _ < 5; omega) | (show _ < 10; omega) | omega) (gm_in rfl (by omega) (by decide)) (gm_cl rfl (by omega)) dX3_plug_199 ?_
              refine go_aload_n hC dX3_plug_200 rfl ?_
              refine go_getr (ci := 3) hC 15 kwX3_plug_3 rfl rfl (by decide) rfl lkX3_plug_41 (by first | decide | (show _ < 5; omega) | (show _ < 10; omega) | omega) dX3_plug_201 ?_
              refine go_iload hC dX3_plug_204 rfl ?_
              refine go_iconst (v := 0) hC dX3_plug_206 (by decide) ?_
              refine go_zast hC rfl (by first | decide | (show _ < 5; omega) | (show _ < 10; omega) | omega) (gm_in rfl (by omega) (by decide)) (gm_cl rfl (by omega)) dX3_plug_207 ?_
              refine go_aload_n hC dX3_plug_208 rfl ?_
              refine go_getr (ci := 3) hC 17 kwX3_plug_3 rfl rfl (by decide) rfl lkX3_plug_47 (by first | decide | (show _ < 5; omega) | (show _ < 10; omega) | omega) dX3_plug_209 ?_
              refine go_iload hC dX3_plug_212 rfl ?_
              refine go_iconst (v := 0) hC dX3_plug_214 (by decide) ?_
              refine go_iast hC rfl (by first | decide | (show _ < 5; omega) | (show _ < 10; omega) | omega) (gm_in rfl (by omega) (by decide)) (gm_cl rfl (by omega)) dX3_plug_215 ?_
              refine go_aload_n hC dX3_plug_216 rfl ?_
              refine go_getr (ci := 3) hC 18 kwX3_plug_3 rfl rfl (by decide) rfl lkX3_plug_50 (by first | decide | (show _ < 5; omega) | (show _ < 10; omega) | omega) dX3_plug_217 ?_
              refine go_iload hC dX3_plug_220 rfl ?_
              refine go_iconst (v := 0) hC dX3_plug_222 (by decide) ?_
              refine go_iast hC rfl (by first | decide | (show _ < 5; omega) | (show _ < 10; omega) | omega) (gm_in rfl (by omega) (by decide)) (gm_cl rfl (by omega)) dX3_plug_223 ?_
              refine go_aload_n hC dX3_plug_224 rfl ?_
              refine go_iconst (v := 2) hC dX3_plug_225 (by decide) ?_
              refine go_iload hC dX3_plug_226 rfl ?_
              refine go_imul hC dX3_plug_228 ?_
              rw [show (2 : Int32) * nI (uN (uD G 5)) = nI (2 * uN (uD G 5)) from pk_mul 2 _]
              refine go_callV (n := 1) (k0 := 0) (n0 := 0) hC hX (c_X3_empty _ (2 * uN (uD G 5)) (by omega)) gX3_plug_X3_empty rfl (by decide +kernel) ⟨rfl, rfl⟩ (by rw [hR]; exact ⟨by decide, by decide⟩) (by rw [hR]; exact ⟨by decide, by decide⟩) rfl rfl rfl (by first | decide | (show _ < 5; omega) | (show _ < 10; omega) | omega) rfl rfl rfl (Nat.le_of_ble_eq_true rfl) dX3_plug_229 ?_
              simp only [gm_r0, gm_r1]
              refine go_aload_n hC dX3_plug_232 rfl ?_
              refine go_iconst (v := 2) hC dX3_plug_233 (by decide) ?_
              refine go_iload hC dX3_plug_234 rfl ?_
              refine go_imul hC dX3_plug_236 ?_
              refine go_iconst (v := 1) hC dX3_plug_237 (by decide) ?_
              refine go_iadd hC dX3_plug_238 ?_
              rw [show (2 : Int32) * nI (uN (uD G 5)) = nI (2 * uN (uD G 5)) from pk_mul 2 _, nI_1]
              refine go_callV (n := 1) (k0 := 0) (n0 := 0) hC hX (c_X3_empty _ (2 * uN (uD G 5) + 1) (by omega)) gX3_plug_X3_empty rfl (by decide +kernel) ⟨rfl, rfl⟩ (by rw [hR]; exact ⟨by decide, by decide⟩) (by rw [hR]; exact ⟨by decide, by decide⟩) rfl rfl rfl (by first | decide | (show _ < 5; omega) | (show _ < 10; omega) | omega) rfl rfl rfl (Nat.le_of_ble_eq_true rfl) dX3_plug_239 ?_
              simp only [gm_r0, gm_r1]
              refine go_iload hC dX3_plug_242 rfl ?_
              refine go_cast ?_ ?_ (hE _ _ dX3_plug_244)
              · rw [sdR_f hnz, ← hue]
              · rw [tM_f hnz]
                rfl
            ·
              rw [gm_us] at h123
              have hz := cdF_ne h123
              refine go_iconst (v := 0) hC dX3_plug_126 (by decide) ?_
              refine go_cast ?_ ?_ (hE _ _ dX3_plug_127)
              · rw [sdR_t hz]
              · rw [tM_t hz]
          ·
            refine go_iload_n hC dX3_plug_98 rfl ?_
            refine go_if_eq hC 106 dX3_plug_99 (by decide) (fun h99 => ?_) (fun h99 => ?_)
            ·
              refine go_iload hC dX3_plug_106 rfl ?_
              refine go_if_ge hC 115 dX3_plug_108 (by decide) (fun h108 => ?_) (fun h108 => ?_)
              ·
                refine go_iconst (v := 0) hC dX3_plug_115 (by decide) ?_
                refine go_cast ?_ rfl hj116
                first | rw [cdF_1 (tF_ne h99)] | rw [cdF_2 (tF_eq h99) (Classical.byContradiction (fun q => h108 (i_le.mpr q)))] | rw [cdF_0 (tF_eq h99) (fun q => i_le.mp h108 q)]
              ·
                refine go_iconst (v := 2) hC dX3_plug_111 (by decide) ?_
                refine go_goto hC 116 dX3_plug_112 (by decide) ?_
                refine go_cast ?_ rfl hj116
                first | rw [cdF_1 (tF_ne h99)] | rw [cdF_2 (tF_eq h99) (Classical.byContradiction (fun q => h108 (i_le.mpr q)))] | rw [cdF_0 (tF_eq h99) (fun q => i_le.mp h108 q)]
            ·
              refine go_iconst (v := 1) hC dX3_plug_102 (by decide) ?_
              refine go_goto hC 116 dX3_plug_103 (by decide) ?_
              refine go_cast ?_ rfl hj116
              first | rw [cdF_1 (tF_ne h99)] | rw [cdF_2 (tF_eq h99) (Classical.byContradiction (fun q => h108 (i_le.mpr q)))] | rw [cdF_0 (tF_eq h99) (fun q => i_le.mp h108 q)]
        ·
          exact absurd (by decide) h38
      · try dsimp only at ih ⊢
        rw [dn0 j hj]
        refine go_iload hC dX3_plug_36 rfl ?_
        refine go_if_lt hC 97 dX3_plug_38 (by decide) (fun h38 => ?_) (fun h38 => ?_)
        ·
          exact absurd h38 (nI_nn (by omega))
        ·
          refine go_joinI (jpc := 71) (tF (pB G a y (j + 1))) ?_ (fun hj71 => ?_)
          ·
            refine go_istore_n hC 3 dX3_plug_71 rfl (Nat.le_of_ble_eq_true rfl) ?_
            simp only [gm_s0, gm_s1]
            refine go_joinI (jpc := 89) (uD G (j + 1)) ?_ (fun hj89 => ?_)
            ·
              refine go_istore hC dX3_plug_89 (Nat.le_of_ble_eq_true rfl) ?_
              simp only [gm_s0, gm_s1]
              refine go_iinc (v := (-1)) hC dX3_plug_91 rfl (by decide) ?_
              simp only [gm_s0, gm_s1]
              refine go_goto hC 36 dX3_plug_94 (by decide) ?_
              rw [dnS j hj]
              exact ih
            ·
              refine go_aload_n hC dX3_plug_72 rfl ?_
              refine go_getr (ci := 3) hC 1 kwX3_plug_3 rfl rfl (by decide) rfl lkX3_plug_7 (by first | decide | (show _ < 5; omega) | (show _ < 10; omega) | omega) dX3_plug_73 ?_
              refine go_iload hC dX3_plug_76 rfl ?_
              refine go_iald hC rfl (by first | decide | (show _ < 5; omega) | (show _ < 10; omega) | omega) (gm_in rfl (by omega) (by decide)) (gm_cl rfl (by omega)) dX3_plug_78 ?_
              refine go_if_ne hC 87 dX3_plug_79 (by decide) (fun h79 => ?_) (fun h79 => ?_)
              ·
                refine go_iload hC dX3_plug_87 rfl ?_
                refine go_cast ?_ rfl hj89
                first | rw [show uD G (j + 1) = _ from if_neg h79] | rw [show uD G (j + 1) = _ from if_pos h79]
              ·
                refine go_iload hC dX3_plug_82 rfl ?_
                refine go_goto hC 89 dX3_plug_84 (by decide) ?_
                refine go_cast ?_ rfl hj89
                first | rw [show uD G (j + 1) = _ from if_neg h79] | rw [show uD G (j + 1) = _ from if_pos h79]
          ·
            refine go_iload_n hC dX3_plug_41 rfl ?_
            refine go_if_ne hC 66 dX3_plug_42 (by decide) (fun h42 => ?_) (fun h42 => ?_)
            ·
              refine go_iconst (v := 1) hC dX3_plug_66 (by decide) ?_
              refine go_goto hC 71 dX3_plug_67 (by decide) ?_
              refine go_cast ?_ rfl hj71
              first | rw [tF_t (P := pB G a y (j + 1)) ((pB_s hj).mpr (Or.inl (tF_ne h42)))] | rw [tF_f (P := pB G a y (j + 1)) (fun q => ((pB_s hj).mp q).elim (tF_eq h42) (fun q => q.1 h52))] | rw [tF_f (P := pB G a y (j + 1)) (fun q => ((pB_s hj).mp q).elim (tF_eq h42) (fun q => h63 q.2))] | rw [tF_t (P := pB G a y (j + 1)) ((pB_s hj).mpr (Or.inr ⟨h52, h63⟩))]
            ·
              refine go_aload_n hC dX3_plug_45 rfl ?_
              refine go_getr (ci := 3) hC 1 kwX3_plug_3 rfl rfl (by decide) rfl lkX3_plug_7 (by first | decide | (show _ < 5; omega) | (show _ < 10; omega) | omega) dX3_plug_46 ?_
              refine go_iload hC dX3_plug_49 rfl ?_
              refine go_iald hC rfl (by first | decide | (show _ < 5; omega) | (show _ < 10; omega) | omega) (gm_in rfl (by omega) (by decide)) (gm_cl rfl (by omega)) dX3_plug_51 ?_
              refine go_if_eq hC 70 dX3_plug_52 (by decide) (fun h52 => ?_) (fun h52 => ?_)
              ·
                refine go_iconst (v := 0) hC dX3_plug_70 (by decide) ?_
                refine go_cast ?_ rfl hj71
                first | rw [tF_t (P := pB G a y (j + 1)) ((pB_s hj).mpr (Or.inl (tF_ne h42)))] | rw [tF_f (P := pB G a y (j + 1)) (fun q => ((pB_s hj).mp q).elim (tF_eq h42) (fun q => q.1 h52))] | rw [tF_f (P := pB G a y (j + 1)) (fun q => ((pB_s hj).mp q).elim (tF_eq h42) (fun q => h63 q.2))] | rw [tF_t (P := pB G a y (j + 1)) ((pB_s hj).mpr (Or.inr ⟨h52, h63⟩))]
              ·
                refine go_aload_n hC dX3_plug_55 rfl ?_
                refine go_getr (ci := 3) hC 2 kwX3_plug_3 rfl rfl (by decide) rfl lkX3_plug_13 (by first | decide | (show _ < 5; omega) | (show _ < 10; omega) | omega) dX3_plug_56 ?_
                refine go_iload hC dX3_plug_59 rfl ?_
                refine go_iald hC rfl (by first | decide | (show _ < 5; omega) | (show _ < 10; omega) | omega) (gm_in rfl (by omega) (by decide)) (gm_cl rfl (by omega)) dX3_plug_61 ?_
                refine go_iload_n hC dX3_plug_62 rfl ?_
                refine go_icmp_ne hC 70 dX3_plug_63 (by decide) (fun h63 => ?_) (fun h63 => ?_)
                ·
                  refine go_iconst (v := 0) hC dX3_plug_70 (by decide) ?_
                  refine go_cast ?_ rfl hj71
                  first | rw [tF_t (P := pB G a y (j + 1)) ((pB_s hj).mpr (Or.inl (tF_ne h42)))] | rw [tF_f (P := pB G a y (j + 1)) (fun q => ((pB_s hj).mp q).elim (tF_eq h42) (fun q => q.1 h52))] | rw [tF_f (P := pB G a y (j + 1)) (fun q => ((pB_s hj).mp q).elim (tF_eq h42) (fun q => h63 q.2))] | rw [tF_t (P := pB G a y (j + 1)) ((pB_s hj).mpr (Or.inr ⟨h52, h63⟩))]
                ·
                  refine go_iconst (v := 1) hC dX3_plug_66 (by decide) ?_
                  refine go_goto hC 71 dX3_plug_67 (by decide) ?_
                  refine go_cast ?_ rfl hj71
                  first | rw [tF_t (P := pB G a y (j + 1)) ((pB_s hj).mpr (Or.inl (tF_ne h42)))] | rw [tF_f (P := pB G a y (j + 1)) (fun q => ((pB_s hj).mp q).elim (tF_eq h42) (fun q => q.1 h52))] | rw [tF_f (P := pB G a y (j + 1)) (fun q => ((pB_s hj).mp q).elim (tF_eq h42) (fun q => h63 q.2))] | rw [tF_t (P := pB G a y (j + 1)) ((pB_s hj).mpr (Or.inr ⟨h52, h63⟩))]
    try dsimp only at lp36
    exact lp36
  ·
    refine go_iload_n hC dX3_plug_0 rfl ?_
    refine go_if_lt hC 24 dX3_plug_1 (by decide) (fun h1 => ?_) (fun h1 => ?_)
    ·
      refine go_iconst (v := 1) hC dX3_plug_24 (by decide) ?_
      refine go_goto hC 29 dX3_plug_25 (by decide) ?_
      refine go_cast ?_ rfl hj29
      first | rw [tF_t (pB_0.mpr (Or.inl h1))] | rw [tF_t (pB_0.mpr (Or.inr (Or.inl h8)))] | rw [tF_t (pB_0.mpr (Or.inr (Or.inr (Or.inl h14))))] | rw [tF_t (pB_0.mpr (Or.inr (Or.inr (Or.inr h21))))] | rw [tF_f (fun q => (pB_0.mp q).elim h1 (fun q => q.elim h8 (fun q => q.elim h14 (fun q => q h21))))]
    ·
      refine go_iload_n hC dX3_plug_4 rfl ?_
      refine go_sipush (v := 9999) hC dX3_plug_5 (by decide) ?_
      refine go_icmp_gt hC 24 dX3_plug_8 (by decide) (fun h8 => ?_) (fun h8 => ?_)
      ·
        refine go_iconst (v := 1) hC dX3_plug_24 (by decide) ?_
        refine go_goto hC 29 dX3_plug_25 (by decide) ?_
        refine go_cast ?_ rfl hj29
        first | rw [tF_t (pB_0.mpr (Or.inl h1))] | rw [tF_t (pB_0.mpr (Or.inr (Or.inl h8)))] | rw [tF_t (pB_0.mpr (Or.inr (Or.inr (Or.inl h14))))] | rw [tF_t (pB_0.mpr (Or.inr (Or.inr (Or.inr h21))))] | rw [tF_f (fun q => (pB_0.mp q).elim h1 (fun q => q.elim h8 (fun q => q.elim h14 (fun q => q h21))))]
      ·
        refine go_iload_n hC dX3_plug_11 rfl ?_
        refine go_bipush (v := 100) hC dX3_plug_12 (by decide) ?_
        refine go_icmp_lt hC 24 dX3_plug_14 (by decide) (fun h14 => ?_) (fun h14 => ?_)
        ·
          refine go_iconst (v := 1) hC dX3_plug_24 (by decide) ?_
          refine go_goto hC 29 dX3_plug_25 (by decide) ?_
          refine go_cast ?_ rfl hj29
          first | rw [tF_t (pB_0.mpr (Or.inl h1))] | rw [tF_t (pB_0.mpr (Or.inr (Or.inl h8)))] | rw [tF_t (pB_0.mpr (Or.inr (Or.inr (Or.inl h14))))] | rw [tF_t (pB_0.mpr (Or.inr (Or.inr (Or.inr h21))))] | rw [tF_f (fun q => (pB_0.mp q).elim h1 (fun q => q.elim h8 (fun q => q.elim h14 (fun q => q h21))))]
        ·
          refine go_iload_n hC dX3_plug_17 rfl ?_
          refine go_sipush (v := 600) hC dX3_plug_18 (by decide) ?_
          refine go_icmp_le hC 28 dX3_plug_21 (by decide) (fun h21 => ?_) (fun h21 => ?_)
          ·
            refine go_iconst (v := 0) hC dX3_plug_28 (by decide) ?_
            refine go_cast ?_ rfl hj29
            first | rw [tF_t (pB_0.mpr (Or.inl h1))] | rw [tF_t (pB_0.mpr (Or.inr (Or.inl h8)))] | rw [tF_t (pB_0.mpr (Or.inr (Or.inr (Or.inl h14))))] | rw [tF_t (pB_0.mpr (Or.inr (Or.inr (Or.inr h21))))] | rw [tF_f (fun q => (pB_0.mp q).elim h1 (fun q => q.elim h8 (fun q => q.elim h14 (fun q => q h21))))]
          ·
            refine go_iconst (v := 1) hC dX3_plug_24 (by decide) ?_
            refine go_goto hC 29 dX3_plug_25 (by decide) ?_
            refine go_cast ?_ rfl hj29
            first | rw [tF_t (pB_0.mpr (Or.inl h1))] | rw [tF_t (pB_0.mpr (Or.inr (Or.inl h8)))] | rw [tF_t (pB_0.mpr (Or.inr (Or.inr (Or.inl h14))))] | rw [tF_t (pB_0.mpr (Or.inr (Or.inr (Or.inr h21))))] | rw [tF_f (fun q => (pB_0.mp q).elim h1 (fun q => q.elim h8 (fun q => q.elim h14 (fun q => q h21))))]
theorem gm_uu {M : gm_M} {k f n : Nat} {x y : Int32} : gm_up (gm_up M k f n x) k f n y = gm_up M k f n y := by
  funext k1 f1 n1
  by_cases h : k1 = k ∧ f1 = f ∧ n1 = n
  · simp [gm_up, h]
  · simp [gm_up, h]
def ctM (G : gm_M) (n : Nat) (f a m g : Int32) : gm_M := gm_up (gm_up (gm_up (gm_up (gm_up G 0 0 0 0) 20 n 0 f) 21 n 0 a) 22 n 0 m) 23 n 0 g
theorem kwX3_contract_3 : ∀ w ∈ wsX30, w ∈ wsX3_contract := by decide +kernel
theorem lkX3_contract_53 : Cond.fieldLink RX3 53 "SharedFibreModel" "fixed" "[I" ∈ wsX3_contract := by decide +kernel
theorem lkX3_contract_56 : Cond.fieldLink RX3 56 "SharedFibreModel" "assured" "[I" ∈ wsX3_contract := by decide +kernel
theorem lkX3_contract_59 : Cond.fieldLink RX3 59 "SharedFibreModel" "most" "[I" ∈ wsX3_contract := by decide +kernel
theorem lkX3_contract_62 : Cond.fieldLink RX3 62 "SharedFibreModel" "weight" "[I" ∈ wsX3_contract := by decide +kernel
theorem lkX3_contract_101 : Cond.fieldLink RX3 101 "SharedFibreModel" "thrown" "I" ∈ wsX3_contract := by decide +kernel
set_option maxHeartbeats 4000000 in
set_option maxRecDepth 100000 in
/-- the reference: X3_contract -/
theorem c_X3_contract (G : gm_M) (u c f a m g : Int32) : KC lyM yX3_contract wsX3_contract ({ frames := 2, cells := 0, slots := 0, locals := 43 }) (fun ad => [.ref (ad 0 0), .int u, .int c, .int f, .int a, .int m, .int g]) G (fun _ => none) (tM (((wM G u ∨ bC c) ∨ f < 0 ∨ a < 0 ∨ 60 < m ∨ g < 1 ∨ ¬ g ≤ 9) ∨ 60 < f ∨ 60 < a ∨ ¬ f + a ≤ m) (gm_up G 0 0 0 1) (tM (¬ (f + a + bx_sum (fun k => if k = (2 * uN u + uN c) then 0 else G 20 k 0 + G 21 k 0) 10) ≤ 55) (gm_up G 0 0 0 2) (ctM G (2 * uN u + uN c) f a m g))) := by
  refine KC.of_v (by decide) rfl rfl (fun _ => by simp) (fun _ => by simp [Value.category])  ?_
  intro X hC hR hX hE
  simp only [List.map_cons, List.map_nil, List.cons_append, List.nil_append, List.length_cons, List.length_nil, List.replicate, Nat.reduceAdd, Nat.reduceSub]
  refine go_joinI (jpc := 43) (tF ((wM G u ∨ bC c) ∨ f < 0 ∨ a < 0 ∨ 60 < m ∨ g < 1 ∨ ¬ g ≤ 9)) ?_ (fun hj43 => ?_)
  ·
    refine go_istore hC dX3_contract_43 (Nat.le_of_ble_eq_true rfl) ?_
    simp only [gm_s0, gm_s1]
    refine go_joinI (jpc := 77) (tF (((wM G u ∨ bC c) ∨ f < 0 ∨ a < 0 ∨ 60 < m ∨ g < 1 ∨ ¬ g ≤ 9) ∨ 60 < f ∨ 60 < a ∨ ¬ f + a ≤ m)) ?_ (fun hj77 => ?_)
    ·
      refine go_istore hC dX3_contract_77 (Nat.le_of_ble_eq_true rfl) ?_
      simp only [gm_s0, gm_s1]
      refine go_aload_n hC dX3_contract_79 rfl ?_
      refine go_joinI (jpc := 90) (tF (((wM G u ∨ bC c) ∨ f < 0 ∨ a < 0 ∨ 60 < m ∨ g < 1 ∨ ¬ g ≤ 9) ∨ 60 < f ∨ 60 < a ∨ ¬ f + a ≤ m)) ?_ (fun hj90 => ?_)
      ·
        refine go_puti (ci := 3) hC 0 kwX3_contract_3 rfl tyX3 tyX3_ok nmX3 rfl (by decide) rfl lkX3_contract_101 (by first | decide | (show _ < 5; omega) | (show _ < 10; omega) | omega) rfl rfl rfl dX3_contract_90 ?_
        refine go_iload hC dX3_contract_93 rfl ?_
        refine go_if_eq hC 99 dX3_contract_95 (by decide) (fun h95 => ?_) (fun h95 => ?_)
        ·
          have hnb := tF_eq h95
          skip
          rw [tF_f hnb]
          obtain ⟨hue, hu5⟩ := bU_ix (fun q => hnb (Or.inl (Or.inl (Or.inl (Or.inl q)))))
          obtain ⟨hce, hc2⟩ := bC_ix (fun q => hnb (Or.inl (Or.inl (Or.inr q))))
          have hix : (2 : Int32) * u + c = nI (2 * uN u + uN c) := by rw [← nI_add, ← hce]; congr 1; exact (congrArg (2 * ·) hue).trans (pk_mul 2 (uN u))
          refine go_iload_n hC dX3_contract_99 rfl ?_
          refine go_iload hC dX3_contract_100 rfl ?_
          refine go_iadd hC dX3_contract_102 ?_
          refine go_istore hC dX3_contract_103 (Nat.le_of_ble_eq_true rfl) ?_
          simp only [gm_s0, gm_s1]
          refine go_iconst (v := 0) hC dX3_contract_105 (by decide) ?_
          refine go_istore hC dX3_contract_106 (Nat.le_of_ble_eq_true rfl) ?_
          simp only [gm_s0, gm_s1]
          have lp108 : (fun j : Nat => GO lyM X 0 0 108 [some (.ref (gm_ad X 0 0)), some (.int u), some (.int c), some (.int f), some (.int a), some (.int m), some (.int g), some (.int 0), some (.int (f + a + bx_sum (fun k => if k = (2 * uN u + uN c) then 0 else G 20 k 0 + G 21 k 0) j)), some (.int (nI j))] [] (gm_up G 0 0 0 0)) 0 := by
            refine loopN (10) (fun j : Nat => GO lyM X 0 0 108 [some (.ref (gm_ad X 0 0)), some (.int u), some (.int c), some (.int f), some (.int a), some (.int m), some (.int g), some (.int 0), some (.int (f + a + bx_sum (fun k => if k = (2 * uN u + uN c) then 0 else G 20 k 0 + G 21 k 0) j)), some (.int (nI j))] [] (gm_up G 0 0 0 0)) ?_ (fun j hj ih => ?_)
            · try dsimp only
              refine go_iload hC dX3_contract_108 rfl ?_
              refine go_bipush (v := 10) hC dX3_contract_110 (by decide) ?_
              refine go_icmp_ge hC 155 dX3_contract_112 (by decide) (fun h112 => ?_) (fun h112 => ?_)
              ·
                refine go_aload_n hC dX3_contract_155 rfl ?_
                refine go_joinI (jpc := 168) (cdF False (¬ (f + a + bx_sum (fun k => if k = (2 * uN u + uN c) then 0 else G 20 k 0 + G 21 k 0) 10) ≤ 55)) ?_ (fun hj168 => ?_)
                ·
                  refine go_puti (ci := 3) hC 0 kwX3_contract_3 rfl tyX3 tyX3_ok nmX3 rfl (by decide) rfl lkX3_contract_101 (by first | decide | (show _ < 5; omega) | (show _ < 10; omega) | omega) rfl rfl rfl dX3_contract_168 ?_
                  refine go_aload_n hC dX3_contract_171 rfl ?_
                  refine go_geti (ci := 3) hC 0 kwX3_contract_3 rfl rfl (by decide) rfl lkX3_contract_101 (by first | decide | (show _ < 5; omega) | (show _ < 10; omega) | omega) dX3_contract_172 ?_
                  refine go_if_ne hC 225 dX3_contract_175 (by decide) (fun h175 => ?_) (fun h175 => ?_)
                  ·
                    rw [gm_us] at h175
                    have hs := (cdF_ne h175).resolve_left (fun q => q)
                    refine go_cast rfl ?_ (hE _ _ dX3_contract_225)
                    first | (rw [tM_f hnb, tM_t hs, cdF_2 (fun q => q) hs, gm_uu]; done) | (rw [tM_f hnb, tM_f hs, ctM, gm_uu]; done)
                  ·
                    rw [gm_us] at h175
                    rw [h175]
                    have hs := (cdF_e h175).2
                    refine go_aload_n hC dX3_contract_178 rfl ?_
                    refine go_getr (ci := 3) hC 19 kwX3_contract_3 rfl rfl (by decide) rfl lkX3_contract_53 (by first | decide | (show _ < 5; omega) | (show _ < 10; omega) | omega) dX3_contract_179 ?_
                    refine go_iconst (v := 2) hC dX3_contract_182 (by decide) ?_
                    refine go_iload_n hC dX3_contract_183 rfl ?_
                    refine go_imul hC dX3_contract_184 ?_
                    refine go_iload_n hC dX3_contract_185 rfl ?_
                    refine go_iadd hC dX3_contract_186 ?_
                    refine go_iload_n hC dX3_contract_187 rfl ?_
                    refine go_iast hC rfl (by first | decide | (show _ < 5; omega) | (show _ < 10; omega) | omega) (gm_in hix (by omega) (by decide)) (gm_cl hix (by omega)) dX3_contract_188 ?_
                    refine go_aload_n hC dX3_contract_189 rfl ?_
                    refine go_getr (ci := 3) hC 20 kwX3_contract_3 rfl rfl (by decide) rfl lkX3_contract_56 (by first | decide | (show _ < 5; omega) | (show _ < 10; omega) | omega) dX3_contract_190 ?_
                    refine go_iconst (v := 2) hC dX3_contract_193 (by decide) ?_
                    refine go_iload_n hC dX3_contract_194 rfl ?_
                    refine go_imul hC dX3_contract_195 ?_
                    refine go_iload_n hC dX3_contract_196 rfl ?_
                    refine go_iadd hC dX3_contract_197 ?_
                    refine go_iload hC dX3_contract_198 rfl ?_
                    refine go_iast hC rfl (by first | decide | (show _ < 5; omega) | (show _ < 10; omega) | omega) (gm_in hix (by omega) (by decide)) (gm_cl hix (by omega)) dX3_contract_200 ?_
                    refine go_aload_n hC dX3_contract_201 rfl ?_
                    refine go_getr (ci := 3) hC 21 kwX3_contract_3 rfl rfl (by decide) rfl lkX3_contract_59 (by first | decide | (show _ < 5; omega) | (show _ < 10; omega) | omega) dX3_contract_202 ?_
                    refine go_iconst (v := 2) hC dX3_contract_205 (by decide) ?_
                    refine go_iload_n hC dX3_contract_206 rfl ?_
                    refine go_imul hC dX3_contract_207 ?_
                    refine go_iload_n hC dX3_contract_208 rfl ?_
                    refine go_iadd hC dX3_contract_209 ?_
                    refine go_iload hC dX3_contract_210 rfl ?_
                    refine go_iast hC rfl (by first | decide | (show _ < 5; omega) | (show _ < 10; omega) | omega) (gm_in hix (by omega) (by decide)) (gm_cl hix (by omega)) dX3_contract_212 ?_
                    refine go_aload_n hC dX3_contract_213 rfl ?_
                    refine go_getr (ci := 3) hC 22 kwX3_contract_3 rfl rfl (by decide) rfl lkX3_contract_62 (by first | decide | (show _ < 5; omega) | (show _ < 10; omega) | omega) dX3_contract_214 ?_
                    refine go_iconst (v := 2) hC dX3_contract_217 (by decide) ?_
                    refine go_iload_n hC dX3_contract_218 rfl ?_
                    refine go_imul hC dX3_contract_219 ?_
                    refine go_iload_n hC dX3_contract_220 rfl ?_
                    refine go_iadd hC dX3_contract_221 ?_
                    refine go_iload hC dX3_contract_222 rfl ?_
                    refine go_iast hC rfl (by first | decide | (show _ < 5; omega) | (show _ < 10; omega) | omega) (gm_in hix (by omega) (by decide)) (gm_cl hix (by omega)) dX3_contract_224 ?_
                    refine go_cast rfl ?_ (hE _ _ dX3_contract_225)
                    first | (rw [tM_f hnb, tM_t hs, cdF_2 (fun q => q) hs, gm_uu]; done) | (rw [tM_f hnb, tM_f hs, ctM, gm_uu]; done)
                ·
                  refine go_iload hC dX3_contract_156 rfl ?_
                  refine go_bipush (v := 55) hC dX3_contract_158 (by decide) ?_
                  refine go_icmp_le hC 167 dX3_contract_160 (by decide) (fun h160 => ?_) (fun h160 => ?_)
                  ·
                    refine go_iconst (v := 0) hC dX3_contract_167 (by decide) ?_
                    refine go_cast ?_ rfl hj168
                    first | rw [cdF_2 (P := False) (Q := ¬ (f + a + bx_sum (fun k => if k = (2 * uN u + uN c) then 0 else G 20 k 0 + G 21 k 0) 10) ≤ 55) id h160] | rw [cdF_0 (P := False) (Q := ¬ (f + a + bx_sum (fun k => if k = (2 * uN u + uN c) then 0 else G 20 k 0 + G 21 k 0) 10) ≤ 55) id (fun q => q h160)]
                  ·
                    refine go_iconst (v := 2) hC dX3_contract_163 (by decide) ?_
                    refine go_goto hC 168 dX3_contract_164 (by decide) ?_
                    refine go_cast ?_ rfl hj168
                    first | rw [cdF_2 (P := False) (Q := ¬ (f + a + bx_sum (fun k => if k = (2 * uN u + uN c) then 0 else G 20 k 0 + G 21 k 0) 10) ≤ 55) id h160] | rw [cdF_0 (P := False) (Q := ¬ (f + a + bx_sum (fun k => if k = (2 * uN u + uN c) then 0 else G 20 k 0 + G 21 k 0) 10) ≤ 55) id (fun q => q h160)]
              ·
                exact absurd (show nI 10 ≤ nI 10 from nI_le (Nat.le_refl _) (by decide)) h112
            · try dsimp only at ih ⊢
              refine go_iload hC dX3_contract_108 rfl ?_
              refine go_bipush (v := 10) hC dX3_contract_110 (by decide) ?_
              refine go_icmp_ge hC 155 dX3_contract_112 (by decide) (fun h112 => ?_) (fun h112 => ?_)
              ·
                exact absurd h112 (show ¬ nI 10 ≤ nI j from nI_ge hj (by decide))
              ·
                refine go_iload hC dX3_contract_115 rfl ?_
                refine go_joinI (jpc := 146) (if j = (2 * uN u + uN c) then 0 else G 20 j 0 + G 21 j 0) ?_ (fun hj146 => ?_)
                ·
                  refine go_iadd hC dX3_contract_146 ?_
                  refine go_istore hC dX3_contract_147 (Nat.le_of_ble_eq_true rfl) ?_
                  simp only [gm_s0, gm_s1]
                  refine go_iinc (v := 1) hC dX3_contract_149 rfl (by decide) ?_
                  simp only [gm_s0, gm_s1]
                  refine go_goto hC 108 dX3_contract_152 (by decide) ?_
                  rw [nI_1]
                  exact (show (f + a + bx_sum (fun k => if k = (2 * uN u + uN c) then 0 else G 20 k 0 + G 21 k 0) j) + _ = (f + a + bx_sum (fun k => if k = (2 * uN u + uN c) then 0 else G 20 k 0 + G 21 k 0) (j + 1)) from Int32.add_assoc _ _ _) ▸ ih
                ·
                  refine go_iload hC dX3_contract_117 rfl ?_
                  refine go_iconst (v := 2) hC dX3_contract_119 (by decide) ?_
                  refine go_iload_n hC dX3_contract_120 rfl ?_
                  refine go_imul hC dX3_contract_121 ?_
                  refine go_iload_n hC dX3_contract_122 rfl ?_
                  refine go_iadd hC dX3_contract_123 ?_
                  refine go_icmp_ne hC 131 dX3_contract_124 (by decide) (fun h124 => ?_) (fun h124 => ?_)
                  ·
                    refine go_aload_n hC dX3_contract_131 rfl ?_
                    refine go_getr (ci := 3) hC 19 kwX3_contract_3 rfl rfl (by decide) rfl lkX3_contract_53 (by first | decide | (show _ < 5; omega) | (show _ < 10; omega) | omega) dX3_contract_132 ?_
                    refine go_iload hC dX3_contract_135 rfl ?_
                    refine go_iald hC rfl (by first | decide | (show _ < 5; omega) | (show _ < 10; omega) | omega) (gm_in rfl (by omega) (by decide)) (gm_cl rfl (by omega)) dX3_contract_137 ?_
                    refine go_aload_n hC dX3_contract_138 rfl ?_
                    refine go_getr (ci := 3) hC 20 kwX3_contract_3 rfl rfl (by decide) rfl lkX3_contract_56 (by first | decide | (show _ < 5; omega) | (show _ < 10; omega) | omega) dX3_contract_139 ?_
                    refine go_iload hC dX3_contract_142 rfl ?_
                    refine go_iald hC rfl (by first | decide | (show _ < 5; omega) | (show _ < 10; omega) | omega) (gm_in rfl (by omega) (by decide)) (gm_cl rfl (by omega)) dX3_contract_144 ?_
                    refine go_iadd hC dX3_contract_145 ?_
                    refine go_cast ?_ rfl hj146
                    first | rw [if_neg (fun q => h124 (by rw [hix, q])), gm_un1 (show (20 : Nat) ≠ 0 by decide), gm_un1 (show (21 : Nat) ≠ 0 by decide)] | rw [if_pos ((nI_eq (by omega) (by omega)).mp (by rw [← hix]; exact h124))]
                  ·
                    refine go_iconst (v := 0) hC dX3_contract_127 (by decide) ?_
                    refine go_goto hC 146 dX3_contract_128 (by decide) ?_
                    refine go_cast ?_ rfl hj146
                    first | rw [if_neg (fun q => h124 (by rw [hix, q])), gm_un1 (show (20 : Nat) ≠ 0 by decide), gm_un1 (show (21 : Nat) ≠ 0 by decide)] | rw [if_pos ((nI_eq (by omega) (by omega)).mp (by rw [← hix]; exact h124))]
          try dsimp only at lp108
          refine go_loc ?_ lp108
          rw [show (f + a + bx_sum (fun k => if k = (2 * uN u + uN c) then 0 else G 20 k 0 + G 21 k 0) 0) = f + a from Int32.add_zero _]
          rfl
        ·
          have hb := tF_ne h95
          refine go_cast rfl ?_ (hE _ _ dX3_contract_98)
          rw [tM_t hb, tF_t hb]
      ·
        refine go_iload hC dX3_contract_80 rfl ?_
        refine go_if_eq hC 89 dX3_contract_82 (by decide) (fun h82 => ?_) (fun h82 => ?_)
        ·
          refine go_iconst (v := 0) hC dX3_contract_89 (by decide) ?_
          refine go_cast ?_ rfl hj90
          first | (rw [h82]; done) | rw [tF_t (P := (((wM G u ∨ bC c) ∨ f < 0 ∨ a < 0 ∨ 60 < m ∨ g < 1 ∨ ¬ g ≤ 9) ∨ 60 < f ∨ 60 < a ∨ ¬ f + a ≤ m)) (tF_ne h82)]
        ·
          refine go_iconst (v := 1) hC dX3_contract_85 (by decide) ?_
          refine go_goto hC 90 dX3_contract_86 (by decide) ?_
          refine go_cast ?_ rfl hj90
          first | (rw [h82]; done) | rw [tF_t (P := (((wM G u ∨ bC c) ∨ f < 0 ∨ a < 0 ∨ 60 < m ∨ g < 1 ∨ ¬ g ≤ 9) ∨ 60 < f ∨ 60 < a ∨ ¬ f + a ≤ m)) (tF_ne h82)]
    ·
      refine go_iload hC dX3_contract_45 rfl ?_
      refine go_if_ne hC 72 dX3_contract_47 (by decide) (fun h47 => ?_) (fun h47 => ?_)
      ·
        refine go_iconst (v := 1) hC dX3_contract_72 (by decide) ?_
        refine go_goto hC 77 dX3_contract_73 (by decide) ?_
        refine go_cast ?_ rfl hj77
        first | rw [tF_t (P := (((wM G u ∨ bC c) ∨ f < 0 ∨ a < 0 ∨ 60 < m ∨ g < 1 ∨ ¬ g ≤ 9) ∨ 60 < f ∨ 60 < a ∨ ¬ f + a ≤ m)) (Or.inl (tF_ne h47))] | rw [tF_t (P := (((wM G u ∨ bC c) ∨ f < 0 ∨ a < 0 ∨ 60 < m ∨ g < 1 ∨ ¬ g ≤ 9) ∨ 60 < f ∨ 60 < a ∨ ¬ f + a ≤ m)) (Or.inr (Or.inl h53))] | rw [tF_t (P := (((wM G u ∨ bC c) ∨ f < 0 ∨ a < 0 ∨ 60 < m ∨ g < 1 ∨ ¬ g ≤ 9) ∨ 60 < f ∨ 60 < a ∨ ¬ f + a ≤ m)) (Or.inr (Or.inr (Or.inl h60)))] | rw [tF_t (P := (((wM G u ∨ bC c) ∨ f < 0 ∨ a < 0 ∨ 60 < m ∨ g < 1 ∨ ¬ g ≤ 9) ∨ 60 < f ∨ 60 < a ∨ ¬ f + a ≤ m)) (Or.inr (Or.inr (Or.inr h69)))] | rw [tF_f (P := (((wM G u ∨ bC c) ∨ f < 0 ∨ a < 0 ∨ 60 < m ∨ g < 1 ∨ ¬ g ≤ 9) ∨ 60 < f ∨ 60 < a ∨ ¬ f + a ≤ m)) (fun q => q.elim (tF_eq h47) (fun q => q.elim h53 (fun q => q.elim h60 (fun q => q h69))))]
      ·
        refine go_iload_n hC dX3_contract_50 rfl ?_
        refine go_bipush (v := 60) hC dX3_contract_51 (by decide) ?_
        refine go_icmp_gt hC 72 dX3_contract_53 (by decide) (fun h53 => ?_) (fun h53 => ?_)
        ·
          refine go_iconst (v := 1) hC dX3_contract_72 (by decide) ?_
          refine go_goto hC 77 dX3_contract_73 (by decide) ?_
          refine go_cast ?_ rfl hj77
          first | rw [tF_t (P := (((wM G u ∨ bC c) ∨ f < 0 ∨ a < 0 ∨ 60 < m ∨ g < 1 ∨ ¬ g ≤ 9) ∨ 60 < f ∨ 60 < a ∨ ¬ f + a ≤ m)) (Or.inl (tF_ne h47))] | rw [tF_t (P := (((wM G u ∨ bC c) ∨ f < 0 ∨ a < 0 ∨ 60 < m ∨ g < 1 ∨ ¬ g ≤ 9) ∨ 60 < f ∨ 60 < a ∨ ¬ f + a ≤ m)) (Or.inr (Or.inl h53))] | rw [tF_t (P := (((wM G u ∨ bC c) ∨ f < 0 ∨ a < 0 ∨ 60 < m ∨ g < 1 ∨ ¬ g ≤ 9) ∨ 60 < f ∨ 60 < a ∨ ¬ f + a ≤ m)) (Or.inr (Or.inr (Or.inl h60)))] | rw [tF_t (P := (((wM G u ∨ bC c) ∨ f < 0 ∨ a < 0 ∨ 60 < m ∨ g < 1 ∨ ¬ g ≤ 9) ∨ 60 < f ∨ 60 < a ∨ ¬ f + a ≤ m)) (Or.inr (Or.inr (Or.inr h69)))] | rw [tF_f (P := (((wM G u ∨ bC c) ∨ f < 0 ∨ a < 0 ∨ 60 < m ∨ g < 1 ∨ ¬ g ≤ 9) ∨ 60 < f ∨ 60 < a ∨ ¬ f + a ≤ m)) (fun q => q.elim (tF_eq h47) (fun q => q.elim h53 (fun q => q.elim h60 (fun q => q h69))))]
        ·
          refine go_iload hC dX3_contract_56 rfl ?_
          refine go_bipush (v := 60) hC dX3_contract_58 (by decide) ?_
          refine go_icmp_gt hC 72 dX3_contract_60 (by decide) (fun h60 => ?_) (fun h60 => ?_)
          ·
            refine go_iconst (v := 1) hC dX3_contract_72 (by decide) ?_
            refine go_goto hC 77 dX3_contract_73 (by decide) ?_
            refine go_cast ?_ rfl hj77
            first | rw [tF_t (P := (((wM G u ∨ bC c) ∨ f < 0 ∨ a < 0 ∨ 60 < m ∨ g < 1 ∨ ¬ g ≤ 9) ∨ 60 < f ∨ 60 < a ∨ ¬ f + a ≤ m)) (Or.inl (tF_ne h47))] | rw [tF_t (P := (((wM G u ∨ bC c) ∨ f < 0 ∨ a < 0 ∨ 60 < m ∨ g < 1 ∨ ¬ g ≤ 9) ∨ 60 < f ∨ 60 < a ∨ ¬ f + a ≤ m)) (Or.inr (Or.inl h53))] | rw [tF_t (P := (((wM G u ∨ bC c) ∨ f < 0 ∨ a < 0 ∨ 60 < m ∨ g < 1 ∨ ¬ g ≤ 9) ∨ 60 < f ∨ 60 < a ∨ ¬ f + a ≤ m)) (Or.inr (Or.inr (Or.inl h60)))] | rw [tF_t (P := (((wM G u ∨ bC c) ∨ f < 0 ∨ a < 0 ∨ 60 < m ∨ g < 1 ∨ ¬ g ≤ 9) ∨ 60 < f ∨ 60 < a ∨ ¬ f + a ≤ m)) (Or.inr (Or.inr (Or.inr h69)))] | rw [tF_f (P := (((wM G u ∨ bC c) ∨ f < 0 ∨ a < 0 ∨ 60 < m ∨ g < 1 ∨ ¬ g ≤ 9) ∨ 60 < f ∨ 60 < a ∨ ¬ f + a ≤ m)) (fun q => q.elim (tF_eq h47) (fun q => q.elim h53 (fun q => q.elim h60 (fun q => q h69))))]
          ·
            refine go_iload hC dX3_contract_63 rfl ?_
            refine go_iload_n hC dX3_contract_65 rfl ?_
            refine go_iload hC dX3_contract_66 rfl ?_
            refine go_iadd hC dX3_contract_68 ?_
            refine go_icmp_ge hC 76 dX3_contract_69 (by decide) (fun h69 => ?_) (fun h69 => ?_)
            ·
              refine go_iconst (v := 0) hC dX3_contract_76 (by decide) ?_
              refine go_cast ?_ rfl hj77
              first | rw [tF_t (P := (((wM G u ∨ bC c) ∨ f < 0 ∨ a < 0 ∨ 60 < m ∨ g < 1 ∨ ¬ g ≤ 9) ∨ 60 < f ∨ 60 < a ∨ ¬ f + a ≤ m)) (Or.inl (tF_ne h47))] | rw [tF_t (P := (((wM G u ∨ bC c) ∨ f < 0 ∨ a < 0 ∨ 60 < m ∨ g < 1 ∨ ¬ g ≤ 9) ∨ 60 < f ∨ 60 < a ∨ ¬ f + a ≤ m)) (Or.inr (Or.inl h53))] | rw [tF_t (P := (((wM G u ∨ bC c) ∨ f < 0 ∨ a < 0 ∨ 60 < m ∨ g < 1 ∨ ¬ g ≤ 9) ∨ 60 < f ∨ 60 < a ∨ ¬ f + a ≤ m)) (Or.inr (Or.inr (Or.inl h60)))] | rw [tF_t (P := (((wM G u ∨ bC c) ∨ f < 0 ∨ a < 0 ∨ 60 < m ∨ g < 1 ∨ ¬ g ≤ 9) ∨ 60 < f ∨ 60 < a ∨ ¬ f + a ≤ m)) (Or.inr (Or.inr (Or.inr h69)))] | rw [tF_f (P := (((wM G u ∨ bC c) ∨ f < 0 ∨ a < 0 ∨ 60 < m ∨ g < 1 ∨ ¬ g ≤ 9) ∨ 60 < f ∨ 60 < a ∨ ¬ f + a ≤ m)) (fun q => q.elim (tF_eq h47) (fun q => q.elim h53 (fun q => q.elim h60 (fun q => q h69))))]
            ·
              refine go_iconst (v := 1) hC dX3_contract_72 (by decide) ?_
              refine go_goto hC 77 dX3_contract_73 (by decide) ?_
              refine go_cast ?_ rfl hj77
              first | rw [tF_t (P := (((wM G u ∨ bC c) ∨ f < 0 ∨ a < 0 ∨ 60 < m ∨ g < 1 ∨ ¬ g ≤ 9) ∨ 60 < f ∨ 60 < a ∨ ¬ f + a ≤ m)) (Or.inl (tF_ne h47))] | rw [tF_t (P := (((wM G u ∨ bC c) ∨ f < 0 ∨ a < 0 ∨ 60 < m ∨ g < 1 ∨ ¬ g ≤ 9) ∨ 60 < f ∨ 60 < a ∨ ¬ f + a ≤ m)) (Or.inr (Or.inl h53))] | rw [tF_t (P := (((wM G u ∨ bC c) ∨ f < 0 ∨ a < 0 ∨ 60 < m ∨ g < 1 ∨ ¬ g ≤ 9) ∨ 60 < f ∨ 60 < a ∨ ¬ f + a ≤ m)) (Or.inr (Or.inr (Or.inl h60)))] | rw [tF_t (P := (((wM G u ∨ bC c) ∨ f < 0 ∨ a < 0 ∨ 60 < m ∨ g < 1 ∨ ¬ g ≤ 9) ∨ 60 < f ∨ 60 < a ∨ ¬ f + a ≤ m)) (Or.inr (Or.inr (Or.inr h69)))] | rw [tF_f (P := (((wM G u ∨ bC c) ∨ f < 0 ∨ a < 0 ∨ 60 < m ∨ g < 1 ∨ ¬ g ≤ 9) ∨ 60 < f ∨ 60 < a ∨ ¬ f + a ≤ m)) (fun q => q.elim (tF_eq h47) (fun q => q.elim h53 (fun q => q.elim h60 (fun q => q h69))))]
  ·
    refine go_aload_n hC dX3_contract_0 rfl ?_
    refine go_iload_n hC dX3_contract_1 rfl ?_
    refine go_iload_n hC dX3_contract_2 rfl ?_
    refine go_callV (n := 2) (k0 := 0) (n0 := 0) hC hX (c_X3_noContainer _ _ _) gX3_contract_X3_noContainer rfl (by decide +kernel) ⟨rfl, rfl⟩ (by rw [hR]; exact ⟨by decide, by decide⟩) (by rw [hR]; exact ⟨by decide, by decide⟩) rfl rfl rfl (by first | decide | (show _ < 5; omega) | (show _ < 10; omega) | omega) rfl rfl rfl (Nat.le_of_ble_eq_true rfl) dX3_contract_3 ?_
    simp only [gm_r0, gm_r1]
    refine go_if_ne hC 38 dX3_contract_6 (by decide) (fun h6 => ?_) (fun h6 => ?_)
    ·
      refine go_iconst (v := 1) hC dX3_contract_38 (by decide) ?_
      refine go_goto hC 43 dX3_contract_39 (by decide) ?_
      refine go_cast ?_ rfl hj43
      first | rw [tF_t (P := ((wM G u ∨ bC c) ∨ f < 0 ∨ a < 0 ∨ 60 < m ∨ g < 1 ∨ ¬ g ≤ 9)) (Or.inl (tF_ne h6))] | rw [tF_t (P := ((wM G u ∨ bC c) ∨ f < 0 ∨ a < 0 ∨ 60 < m ∨ g < 1 ∨ ¬ g ≤ 9)) (Or.inr (Or.inl h10))] | rw [tF_t (P := ((wM G u ∨ bC c) ∨ f < 0 ∨ a < 0 ∨ 60 < m ∨ g < 1 ∨ ¬ g ≤ 9)) (Or.inr (Or.inr (Or.inl h15)))] | rw [tF_t (P := ((wM G u ∨ bC c) ∨ f < 0 ∨ a < 0 ∨ 60 < m ∨ g < 1 ∨ ¬ g ≤ 9)) (Or.inr (Or.inr (Or.inr (Or.inl h22))))] | rw [tF_t (P := ((wM G u ∨ bC c) ∨ f < 0 ∨ a < 0 ∨ 60 < m ∨ g < 1 ∨ ¬ g ≤ 9)) (Or.inr (Or.inr (Or.inr (Or.inr (Or.inl h28)))))] | rw [tF_t (P := ((wM G u ∨ bC c) ∨ f < 0 ∨ a < 0 ∨ 60 < m ∨ g < 1 ∨ ¬ g ≤ 9)) (Or.inr (Or.inr (Or.inr (Or.inr (Or.inr h35)))))] | rw [tF_f (P := ((wM G u ∨ bC c) ∨ f < 0 ∨ a < 0 ∨ 60 < m ∨ g < 1 ∨ ¬ g ≤ 9)) (fun q => q.elim (tF_eq h6) (fun q => q.elim h10 (fun q => q.elim h15 (fun q => q.elim h22 (fun q => q.elim h28 (fun q => q h35))))))]
    ·
      refine go_iload_n hC dX3_contract_9 rfl ?_
      refine go_if_lt hC 38 dX3_contract_10 (by decide) (fun h10 => ?_) (fun h10 => ?_)
      ·
        refine go_iconst (v := 1) hC dX3_contract_38 (by decide) ?_
        refine go_goto hC 43 dX3_contract_39 (by decide) ?_
        refine go_cast ?_ rfl hj43
        first | rw [tF_t (P := ((wM G u ∨ bC c) ∨ f < 0 ∨ a < 0 ∨ 60 < m ∨ g < 1 ∨ ¬ g ≤ 9)) (Or.inl (tF_ne h6))] | rw [tF_t (P := ((wM G u ∨ bC c) ∨ f < 0 ∨ a < 0 ∨ 60 < m ∨ g < 1 ∨ ¬ g ≤ 9)) (Or.inr (Or.inl h10))] | rw [tF_t (P := ((wM G u ∨ bC c) ∨ f < 0 ∨ a < 0 ∨ 60 < m ∨ g < 1 ∨ ¬ g ≤ 9)) (Or.inr (Or.inr (Or.inl h15)))] | rw [tF_t (P := ((wM G u ∨ bC c) ∨ f < 0 ∨ a < 0 ∨ 60 < m ∨ g < 1 ∨ ¬ g ≤ 9)) (Or.inr (Or.inr (Or.inr (Or.inl h22))))] | rw [tF_t (P := ((wM G u ∨ bC c) ∨ f < 0 ∨ a < 0 ∨ 60 < m ∨ g < 1 ∨ ¬ g ≤ 9)) (Or.inr (Or.inr (Or.inr (Or.inr (Or.inl h28)))))] | rw [tF_t (P := ((wM G u ∨ bC c) ∨ f < 0 ∨ a < 0 ∨ 60 < m ∨ g < 1 ∨ ¬ g ≤ 9)) (Or.inr (Or.inr (Or.inr (Or.inr (Or.inr h35)))))] | rw [tF_f (P := ((wM G u ∨ bC c) ∨ f < 0 ∨ a < 0 ∨ 60 < m ∨ g < 1 ∨ ¬ g ≤ 9)) (fun q => q.elim (tF_eq h6) (fun q => q.elim h10 (fun q => q.elim h15 (fun q => q.elim h22 (fun q => q.elim h28 (fun q => q h35))))))]
      ·
        refine go_iload hC dX3_contract_13 rfl ?_
        refine go_if_lt hC 38 dX3_contract_15 (by decide) (fun h15 => ?_) (fun h15 => ?_)
        ·
          refine go_iconst (v := 1) hC dX3_contract_38 (by decide) ?_
          refine go_goto hC 43 dX3_contract_39 (by decide) ?_
          refine go_cast ?_ rfl hj43
          first | rw [tF_t (P := ((wM G u ∨ bC c) ∨ f < 0 ∨ a < 0 ∨ 60 < m ∨ g < 1 ∨ ¬ g ≤ 9)) (Or.inl (tF_ne h6))] | rw [tF_t (P := ((wM G u ∨ bC c) ∨ f < 0 ∨ a < 0 ∨ 60 < m ∨ g < 1 ∨ ¬ g ≤ 9)) (Or.inr (Or.inl h10))] | rw [tF_t (P := ((wM G u ∨ bC c) ∨ f < 0 ∨ a < 0 ∨ 60 < m ∨ g < 1 ∨ ¬ g ≤ 9)) (Or.inr (Or.inr (Or.inl h15)))] | rw [tF_t (P := ((wM G u ∨ bC c) ∨ f < 0 ∨ a < 0 ∨ 60 < m ∨ g < 1 ∨ ¬ g ≤ 9)) (Or.inr (Or.inr (Or.inr (Or.inl h22))))] | rw [tF_t (P := ((wM G u ∨ bC c) ∨ f < 0 ∨ a < 0 ∨ 60 < m ∨ g < 1 ∨ ¬ g ≤ 9)) (Or.inr (Or.inr (Or.inr (Or.inr (Or.inl h28)))))] | rw [tF_t (P := ((wM G u ∨ bC c) ∨ f < 0 ∨ a < 0 ∨ 60 < m ∨ g < 1 ∨ ¬ g ≤ 9)) (Or.inr (Or.inr (Or.inr (Or.inr (Or.inr h35)))))] | rw [tF_f (P := ((wM G u ∨ bC c) ∨ f < 0 ∨ a < 0 ∨ 60 < m ∨ g < 1 ∨ ¬ g ≤ 9)) (fun q => q.elim (tF_eq h6) (fun q => q.elim h10 (fun q => q.elim h15 (fun q => q.elim h22 (fun q => q.elim h28 (fun q => q h35))))))]
        ·
          refine go_iload hC dX3_contract_18 rfl ?_
          refine go_bipush (v := 60) hC dX3_contract_20 (by decide) ?_
          refine go_icmp_gt hC 38 dX3_contract_22 (by decide) (fun h22 => ?_) (fun h22 => ?_)
          ·
            refine go_iconst (v := 1) hC dX3_contract_38 (by decide) ?_
            refine go_goto hC 43 dX3_contract_39 (by decide) ?_
            refine go_cast ?_ rfl hj43
            first | rw [tF_t (P := ((wM G u ∨ bC c) ∨ f < 0 ∨ a < 0 ∨ 60 < m ∨ g < 1 ∨ ¬ g ≤ 9)) (Or.inl (tF_ne h6))] | rw [tF_t (P := ((wM G u ∨ bC c) ∨ f < 0 ∨ a < 0 ∨ 60 < m ∨ g < 1 ∨ ¬ g ≤ 9)) (Or.inr (Or.inl h10))] | rw [tF_t (P := ((wM G u ∨ bC c) ∨ f < 0 ∨ a < 0 ∨ 60 < m ∨ g < 1 ∨ ¬ g ≤ 9)) (Or.inr (Or.inr (Or.inl h15)))] | rw [tF_t (P := ((wM G u ∨ bC c) ∨ f < 0 ∨ a < 0 ∨ 60 < m ∨ g < 1 ∨ ¬ g ≤ 9)) (Or.inr (Or.inr (Or.inr (Or.inl h22))))] | rw [tF_t (P := ((wM G u ∨ bC c) ∨ f < 0 ∨ a < 0 ∨ 60 < m ∨ g < 1 ∨ ¬ g ≤ 9)) (Or.inr (Or.inr (Or.inr (Or.inr (Or.inl h28)))))] | rw [tF_t (P := ((wM G u ∨ bC c) ∨ f < 0 ∨ a < 0 ∨ 60 < m ∨ g < 1 ∨ ¬ g ≤ 9)) (Or.inr (Or.inr (Or.inr (Or.inr (Or.inr h35)))))] | rw [tF_f (P := ((wM G u ∨ bC c) ∨ f < 0 ∨ a < 0 ∨ 60 < m ∨ g < 1 ∨ ¬ g ≤ 9)) (fun q => q.elim (tF_eq h6) (fun q => q.elim h10 (fun q => q.elim h15 (fun q => q.elim h22 (fun q => q.elim h28 (fun q => q h35))))))]
          ·
            refine go_iload hC dX3_contract_25 rfl ?_
            refine go_iconst (v := 1) hC dX3_contract_27 (by decide) ?_
            refine go_icmp_lt hC 38 dX3_contract_28 (by decide) (fun h28 => ?_) (fun h28 => ?_)
            ·
              refine go_iconst (v := 1) hC dX3_contract_38 (by decide) ?_
              refine go_goto hC 43 dX3_contract_39 (by decide) ?_
              refine go_cast ?_ rfl hj43
              first | rw [tF_t (P := ((wM G u ∨ bC c) ∨ f < 0 ∨ a < 0 ∨ 60 < m ∨ g < 1 ∨ ¬ g ≤ 9)) (Or.inl (tF_ne h6))] | rw [tF_t (P := ((wM G u ∨ bC c) ∨ f < 0 ∨ a < 0 ∨ 60 < m ∨ g < 1 ∨ ¬ g ≤ 9)) (Or.inr (Or.inl h10))] | rw [tF_t (P := ((wM G u ∨ bC c) ∨ f < 0 ∨ a < 0 ∨ 60 < m ∨ g < 1 ∨ ¬ g ≤ 9)) (Or.inr (Or.inr (Or.inl h15)))] | rw [tF_t (P := ((wM G u ∨ bC c) ∨ f < 0 ∨ a < 0 ∨ 60 < m ∨ g < 1 ∨ ¬ g ≤ 9)) (Or.inr (Or.inr (Or.inr (Or.inl h22))))] | rw [tF_t (P := ((wM G u ∨ bC c) ∨ f < 0 ∨ a < 0 ∨ 60 < m ∨ g < 1 ∨ ¬ g ≤ 9)) (Or.inr (Or.inr (Or.inr (Or.inr (Or.inl h28)))))] | rw [tF_t (P := ((wM G u ∨ bC c) ∨ f < 0 ∨ a < 0 ∨ 60 < m ∨ g < 1 ∨ ¬ g ≤ 9)) (Or.inr (Or.inr (Or.inr (Or.inr (Or.inr h35)))))] | rw [tF_f (P := ((wM G u ∨ bC c) ∨ f < 0 ∨ a < 0 ∨ 60 < m ∨ g < 1 ∨ ¬ g ≤ 9)) (fun q => q.elim (tF_eq h6) (fun q => q.elim h10 (fun q => q.elim h15 (fun q => q.elim h22 (fun q => q.elim h28 (fun q => q h35))))))]
            ·
              refine go_iload hC dX3_contract_31 rfl ?_
              refine go_bipush (v := 9) hC dX3_contract_33 (by decide) ?_
              refine go_icmp_le hC 42 dX3_contract_35 (by decide) (fun h35 => ?_) (fun h35 => ?_)
              ·
                refine go_iconst (v := 0) hC dX3_contract_42 (by decide) ?_
                refine go_cast ?_ rfl hj43
                first | rw [tF_t (P := ((wM G u ∨ bC c) ∨ f < 0 ∨ a < 0 ∨ 60 < m ∨ g < 1 ∨ ¬ g ≤ 9)) (Or.inl (tF_ne h6))] | rw [tF_t (P := ((wM G u ∨ bC c) ∨ f < 0 ∨ a < 0 ∨ 60 < m ∨ g < 1 ∨ ¬ g ≤ 9)) (Or.inr (Or.inl h10))] | rw [tF_t (P := ((wM G u ∨ bC c) ∨ f < 0 ∨ a < 0 ∨ 60 < m ∨ g < 1 ∨ ¬ g ≤ 9)) (Or.inr (Or.inr (Or.inl h15)))] | rw [tF_t (P := ((wM G u ∨ bC c) ∨ f < 0 ∨ a < 0 ∨ 60 < m ∨ g < 1 ∨ ¬ g ≤ 9)) (Or.inr (Or.inr (Or.inr (Or.inl h22))))] | rw [tF_t (P := ((wM G u ∨ bC c) ∨ f < 0 ∨ a < 0 ∨ 60 < m ∨ g < 1 ∨ ¬ g ≤ 9)) (Or.inr (Or.inr (Or.inr (Or.inr (Or.inl h28)))))] | rw [tF_t (P := ((wM G u ∨ bC c) ∨ f < 0 ∨ a < 0 ∨ 60 < m ∨ g < 1 ∨ ¬ g ≤ 9)) (Or.inr (Or.inr (Or.inr (Or.inr (Or.inr h35)))))] | rw [tF_f (P := ((wM G u ∨ bC c) ∨ f < 0 ∨ a < 0 ∨ 60 < m ∨ g < 1 ∨ ¬ g ≤ 9)) (fun q => q.elim (tF_eq h6) (fun q => q.elim h10 (fun q => q.elim h15 (fun q => q.elim h22 (fun q => q.elim h28 (fun q => q h35))))))]
              ·
                refine go_iconst (v := 1) hC dX3_contract_38 (by decide) ?_
                refine go_goto hC 43 dX3_contract_39 (by decide) ?_
                refine go_cast ?_ rfl hj43
                first | rw [tF_t (P := ((wM G u ∨ bC c) ∨ f < 0 ∨ a < 0 ∨ 60 < m ∨ g < 1 ∨ ¬ g ≤ 9)) (Or.inl (tF_ne h6))] | rw [tF_t (P := ((wM G u ∨ bC c) ∨ f < 0 ∨ a < 0 ∨ 60 < m ∨ g < 1 ∨ ¬ g ≤ 9)) (Or.inr (Or.inl h10))] | rw [tF_t (P := ((wM G u ∨ bC c) ∨ f < 0 ∨ a < 0 ∨ 60 < m ∨ g < 1 ∨ ¬ g ≤ 9)) (Or.inr (Or.inr (Or.inl h15)))] | rw [tF_t (P := ((wM G u ∨ bC c) ∨ f < 0 ∨ a < 0 ∨ 60 < m ∨ g < 1 ∨ ¬ g ≤ 9)) (Or.inr (Or.inr (Or.inr (Or.inl h22))))] | rw [tF_t (P := ((wM G u ∨ bC c) ∨ f < 0 ∨ a < 0 ∨ 60 < m ∨ g < 1 ∨ ¬ g ≤ 9)) (Or.inr (Or.inr (Or.inr (Or.inr (Or.inl h28)))))] | rw [tF_t (P := ((wM G u ∨ bC c) ∨ f < 0 ∨ a < 0 ∨ 60 < m ∨ g < 1 ∨ ¬ g ≤ 9)) (Or.inr (Or.inr (Or.inr (Or.inr (Or.inr h35)))))] | rw [tF_f (P := ((wM G u ∨ bC c) ∨ f < 0 ∨ a < 0 ∨ 60 < m ∨ g < 1 ∨ ¬ g ≤ 9)) (fun q => q.elim (tF_eq h6) (fun q => q.elim h10 (fun q => q.elim h15 (fun q => q.elim h22 (fun q => q.elim h28 (fun q => q h35))))))]
