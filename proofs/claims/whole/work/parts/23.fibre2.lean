/-! ===== the class: the fibre (2) ===== -/
theorem winF_in (a b : Int32) : ∃ k, k < 8 ∧ winF a b = nI k := by
  unfold winF
  generalize mixF a b = x
  have h := pk_ushr x 1 1 (by decide)
  have hlt : x.toBitVec.toNat < 2 ^ 32 := x.toBitVec.isLt
  generalize hy : (x.toUInt32 >>> ((1 : Int32).toUInt32 &&& Int32.toUInt32 31)).toInt32 = y at h ⊢
  have hn : y = nI (x.toBitVec.toNat / 2) := by
    apply Int32.toBitVec_inj.mp
    apply BitVec.eq_of_toNat_eq
    rw [h, pk_tn (by omega)]
  refine ⟨x.toBitVec.toNat / 2 % 8, by omega, ?_⟩
  rw [hn]
  exact pk_rem (d := 8) (by omega) (by decide) (by decide)
def wN (M : gm_M) (u : Nat) : Nat := (winF (M 1 2 u) (M 1 4 u)).toNatClampNeg
theorem wN_lt (M : gm_M) (u : Nat) : wN M u < 8 := by
  obtain ⟨k, hk, e⟩ := winF_in (M 1 2 u) (M 1 4 u)
  unfold wN
  rw [e, nI_clamp (by omega)]
  exact hk
theorem wN_eq (M : gm_M) (u : Nat) : winF (M 1 2 u) (M 1 4 u) = nI (wN M u) := by
  obtain ⟨k, hk, e⟩ := winF_in (M 1 2 u) (M 1 4 u)
  unfold wN
  rw [e, nI_clamp (by omega)]
def pq1 : Nat → gm_M → gm_M := fun k M => gm_up M 6 k 0 0
def pq2 : Nat → gm_M → gm_M := fun u M => if M 1 1 u = 1 then gm_up M 6 (wN M u) 0 (M 6 (wN M u) 0 + 1) else M
def pq3 : Nat → gm_M → gm_M := fun u M => if M 1 1 u = 1 then (if M 6 (wN M u) 0 = 1 then gm_up M 1 1 u 2 else gm_up M 1 4 u (M 1 4 u + 1)) else M
def pqF (M : gm_M) : gm_M := iter pq3 5 (iter pq2 5 (iter pq1 8 M))
theorem kwX2_passQuiet_1 : ∀ w ∈ wsX10, w ∈ wsX2_passQuiet := by decide +kernel
theorem kwX2_passQuiet_2 : ∀ w ∈ wsX20, w ∈ wsX2_passQuiet := by decide +kernel
theorem lkX2_passQuiet_11 : Cond.fieldLink RX2 11 "SharedFibre" "units" "[LSharedFibre$Unit;" ∈ wsX2_passQuiet := by decide +kernel
theorem lkX2_passQuiet_23 : Cond.fieldLink RX2 23 "SharedFibre" "answersIn" "[I" ∈ wsX2_passQuiet := by decide +kernel
theorem lkX2_passQuiet_58 : Cond.fieldLink RX2 58 "SharedFibre$Unit" "state" "I" ∈ wsX2_passQuiet := by decide +kernel
theorem lkX2_passQuiet_197 : Cond.fieldLink RX2 197 "SharedFibre$Unit" "answered" "I" ∈ wsX2_passQuiet := by decide +kernel
set_option maxHeartbeats 4000000 in
set_option maxRecDepth 100000 in
/-- passQuiet -/
theorem c_X2_passQuiet (M : gm_M) : KC lyC yX2_passQuiet wsX2_passQuiet ({ frames := 2, cells := 0, slots := 0, locals := 42 }) (fun ad => [.ref (ad 2 0)]) M (fun _ => none) (pqF M) := by
  refine KC.of_v (by decide) rfl rfl (fun _ => by simp) (fun _ => by simp [Value.category])  ?_
  intro X hC hR hX hE
  simp only [List.map_cons, List.map_nil, List.cons_append, List.nil_append, List.length_cons, List.length_nil, List.replicate, Nat.reduceAdd, Nat.reduceSub]
  have lp2 : (fun j : Nat => GO lyC X 0 0 2 [some (.ref (gm_ad X 2 0)), some (.int (nI j)), none, none, none] [] (iter pq1 j M)) 0 := by
    refine loopN (8) (fun j : Nat => GO lyC X 0 0 2 [some (.ref (gm_ad X 2 0)), some (.int (nI j)), none, none, none] [] (iter pq1 j M)) ?_ (fun j hj ih => ?_)
    · try dsimp only
      refine go_iload_n hC dX2_passQuiet_2 rfl ?_
      refine go_bipush (v := 8) hC dX2_passQuiet_3 (by decide) ?_
      refine go_icmp_ge hC 21 dX2_passQuiet_5 (by decide) (fun h5 => ?_) (fun h5 => ?_)
      ·
        refine go_aload_n hC dX2_passQuiet_21 rfl ?_
        refine go_getr (ci := 2) hC 0 kwX2_passQuiet_2 rfl rfl (by decide) rfl lkX2_passQuiet_11 (by first | decide | (show _ < 5; omega) | (show _ < 10; omega) | omega) dX2_passQuiet_22 ?_
        refine go_astore_n hC 1 dX2_passQuiet_25 rfl (Nat.le_of_ble_eq_true rfl) ?_
        simp only [gm_s0, gm_s1]
        refine go_aload_n hC dX2_passQuiet_26 rfl ?_
        refine go_alenr (v := 5) hC rfl (fun _ => rfl) (by first | decide | (show _ < 5; omega) | (show _ < 10; omega) | omega) (by decide) dX2_passQuiet_27 ?_
        refine go_istore_n hC 2 dX2_passQuiet_28 rfl (Nat.le_of_ble_eq_true rfl) ?_
        simp only [gm_s0, gm_s1]
        refine go_iconst (v := 0) hC dX2_passQuiet_29 (by decide) ?_
        refine go_istore_n hC 3 dX2_passQuiet_30 rfl (Nat.le_of_ble_eq_true rfl) ?_
        simp only [gm_s0, gm_s1]
        have lp31 : (fun j : Nat => GO lyC X 0 0 31 [some (.ref (gm_ad X 2 0)), some (.ref (gm_ad X 3 0)), some (.int 5), some (.int (nI j)), none] [] (iter pq2 j (iter pq1 8 M))) 0 := by
          refine loopN (5) (fun j : Nat => GO lyC X 0 0 31 [some (.ref (gm_ad X 2 0)), some (.ref (gm_ad X 3 0)), some (.int 5), some (.int (nI j)), none] [] (iter pq2 j (iter pq1 8 M))) ?_ (fun j hj ih => ?_)
          · try dsimp only
            refine go_iload_n hC dX2_passQuiet_31 rfl ?_
            refine go_iload_n hC dX2_passQuiet_32 rfl ?_
            refine go_icmp_ge hC 70 dX2_passQuiet_33 (by decide) (fun h33 => ?_) (fun h33 => ?_)
            ·
              refine go_aload_n hC dX2_passQuiet_70 rfl ?_
              refine go_getr (ci := 2) hC 0 kwX2_passQuiet_2 rfl rfl (by decide) rfl lkX2_passQuiet_11 (by first | decide | (show _ < 5; omega) | (show _ < 10; omega) | omega) dX2_passQuiet_71 ?_
              refine go_astore_n hC 1 dX2_passQuiet_74 rfl (Nat.le_of_ble_eq_true rfl) ?_
              simp only [gm_s0, gm_s1]
              refine go_aload_n hC dX2_passQuiet_75 rfl ?_
              refine go_alenr (v := 5) hC rfl (fun _ => rfl) (by first | decide | (show _ < 5; omega) | (show _ < 10; omega) | omega) (by decide) dX2_passQuiet_76 ?_
              refine go_istore_n hC 2 dX2_passQuiet_77 rfl (Nat.le_of_ble_eq_true rfl) ?_
              simp only [gm_s0, gm_s1]
              refine go_iconst (v := 0) hC dX2_passQuiet_78 (by decide) ?_
              refine go_istore_n hC 3 dX2_passQuiet_79 rfl (Nat.le_of_ble_eq_true rfl) ?_
              simp only [gm_s0, gm_s1]
              have lp80 : (fun j : Nat => GO lyC X 0 0 80 [some (.ref (gm_ad X 2 0)), some (.ref (gm_ad X 3 0)), some (.int 5), some (.int (nI j)), none] [] (iter pq3 j (iter pq2 5 (iter pq1 8 M)))) 0 := by
                refine loopN (5) (fun j : Nat => GO lyC X 0 0 80 [some (.ref (gm_ad X 2 0)), some (.ref (gm_ad X 3 0)), some (.int 5), some (.int (nI j)), none] [] (iter pq3 j (iter pq2 5 (iter pq1 8 M)))) ?_ (fun j hj ih => ?_)
                · try dsimp only
                  refine go_iload_n hC dX2_passQuiet_80 rfl ?_
                  refine go_iload_n hC dX2_passQuiet_81 rfl ?_
                  refine go_icmp_ge hC 139 dX2_passQuiet_82 (by decide) (fun h82 => ?_) (fun h82 => ?_)
                  ·
                    refine go_cast ?_ ?_ (hE _ _ dX2_passQuiet_139)
                    · first | rfl | (simp [*]; done) | (simp [*, gm_us, gm_un1, gm_un2]; done)
                    · first | rfl | (simp [*]; done) | (simp [*, gm_us, gm_un1, gm_un2]; done)
                  ·
                    exact absurd (show nI 5 ≤ nI 5 from nI_le (Nat.le_refl _) (by decide)) h82
                · try dsimp only at ih ⊢
                  refine go_iload_n hC dX2_passQuiet_80 rfl ?_
                  refine go_iload_n hC dX2_passQuiet_81 rfl ?_
                  refine go_icmp_ge hC 139 dX2_passQuiet_82 (by decide) (fun h82 => ?_) (fun h82 => ?_)
                  ·
                    exact absurd h82 (show ¬ nI 5 ≤ nI j from nI_ge hj (by decide))
                  ·
                    refine go_aload_n hC dX2_passQuiet_85 rfl ?_
                    refine go_iload_n hC dX2_passQuiet_86 rfl ?_
                    refine go_aald hC rfl (fun _ => rfl) (by first | decide | (show _ < 5; omega) | (show _ < 10; omega) | omega) (gm_in rfl (by omega) (by decide)) (gm_cu rfl (by omega)) dX2_passQuiet_87 ?_
                    refine go_astore hC dX2_passQuiet_88 (Nat.le_of_ble_eq_true rfl) ?_
                    simp only [gm_s0, gm_s1]
                    refine go_aload hC dX2_passQuiet_90 rfl ?_
                    refine go_geti (ci := 1) hC 1 kwX2_passQuiet_1 rfl rfl (by decide) rfl lkX2_passQuiet_58 (by first | decide | (show _ < 5; omega) | (show _ < 10; omega) | omega) dX2_passQuiet_92 ?_
                    refine go_iconst (v := 1) hC dX2_passQuiet_95 (by decide) ?_
                    refine go_icmp_ne hC 133 dX2_passQuiet_96 (by decide) (fun h96 => ?_) (fun h96 => ?_)
                    ·
                      refine go_iinc (v := 1) hC dX2_passQuiet_133 rfl (by decide) ?_
                      simp only [gm_s0, gm_s1]
                      refine go_goto hC 80 dX2_passQuiet_136 (by decide) ?_
                      rw [nI_1]
                      refine go_sub (go_mem ?_ ih) ?_
                      · rw [iter_s pq3 j]
                        first | (simp only [pq3, if_pos h96, if_pos h110]; done) | (simp only [pq3, if_pos h96, if_neg h110]; done) | (simp only [pq3, if_neg h96]; done)
                      repeat (first | exact gm_le_nil | refine gm_le_c ?_ | refine gm_le_n ?_)
                    ·
                      refine go_aload_n hC dX2_passQuiet_99 rfl ?_
                      refine go_getr (ci := 2) hC 3 kwX2_passQuiet_2 rfl rfl (by decide) rfl lkX2_passQuiet_23 (by first | decide | (show _ < 5; omega) | (show _ < 10; omega) | omega) dX2_passQuiet_100 ?_
                      refine go_aload hC dX2_passQuiet_103 rfl ?_
                      refine go_callV (n := 0) (k0 := 1) (n0 := j) hC hX (c_X1_answerWindow _ _ (by omega)) gX2_passQuiet_X1_answerWindow rfl (by decide +kernel) ⟨rfl, rfl⟩ (by rw [hR]; exact ⟨by decide, by decide⟩) (by rw [hR]; exact ⟨by decide, by decide⟩) rfl rfl rfl (by first | decide | (show _ < 5; omega) | (show _ < 10; omega) | omega) rfl rfl rfl (Nat.le_of_ble_eq_true rfl) dX2_passQuiet_105 ?_
                      simp only [gm_r0, gm_r1]
                      have hw8 := wN_lt (iter pq3 j (iter pq2 5 (iter pq1 8 M))) j
                      have hwe := wN_eq (iter pq3 j (iter pq2 5 (iter pq1 8 M))) j
                      refine go_iald hC rfl (by first | decide | (show _ < 5; omega) | (show _ < 10; omega) | omega) (gm_in hwe (by omega) (by decide)) (gm_cl hwe (by omega)) dX2_passQuiet_108 ?_
                      refine go_iconst (v := 1) hC dX2_passQuiet_109 (by decide) ?_
                      refine go_icmp_ne hC 122 dX2_passQuiet_110 (by decide) (fun h110 => ?_) (fun h110 => ?_)
                      ·
                        refine go_aload hC dX2_passQuiet_122 rfl ?_
                        refine go_dup hC dX2_passQuiet_124 rfl ?_
                        refine go_geti (ci := 1) hC 4 kwX2_passQuiet_1 rfl rfl (by decide) rfl lkX2_passQuiet_197 (by first | decide | (show _ < 5; omega) | (show _ < 10; omega) | omega) dX2_passQuiet_125 ?_
                        refine go_iconst (v := 1) hC dX2_passQuiet_128 (by decide) ?_
                        refine go_iadd hC dX2_passQuiet_129 ?_
                        refine go_puti (ci := 1) hC 4 kwX2_passQuiet_1 rfl tyX1 tyX1_ok nmX1 rfl (by decide) rfl lkX2_passQuiet_197 (by first | decide | (show _ < 5; omega) | (show _ < 10; omega) | omega) rfl rfl rfl dX2_passQuiet_130 ?_
                        refine go_iinc (v := 1) hC dX2_passQuiet_133 rfl (by decide) ?_
                        simp only [gm_s0, gm_s1]
                        refine go_goto hC 80 dX2_passQuiet_136 (by decide) ?_
                        rw [nI_1]
                        refine go_sub (go_mem ?_ ih) ?_
                        · rw [iter_s pq3 j]
                          first | (simp only [pq3, if_pos h96, if_pos h110]; done) | (simp only [pq3, if_pos h96, if_neg h110]; done) | (simp only [pq3, if_neg h96]; done)
                        repeat (first | exact gm_le_nil | refine gm_le_c ?_ | refine gm_le_n ?_)
                      ·
                        refine go_aload hC dX2_passQuiet_113 rfl ?_
                        refine go_iconst (v := 2) hC dX2_passQuiet_115 (by decide) ?_
                        refine go_puti (ci := 1) hC 1 kwX2_passQuiet_1 rfl tyX1 tyX1_ok nmX1 rfl (by decide) rfl lkX2_passQuiet_58 (by first | decide | (show _ < 5; omega) | (show _ < 10; omega) | omega) rfl rfl rfl dX2_passQuiet_116 ?_
                        refine go_goto hC 133 dX2_passQuiet_119 (by decide) ?_
                        refine go_iinc (v := 1) hC dX2_passQuiet_133 rfl (by decide) ?_
                        simp only [gm_s0, gm_s1]
                        refine go_goto hC 80 dX2_passQuiet_136 (by decide) ?_
                        rw [nI_1]
                        refine go_sub (go_mem ?_ ih) ?_
                        · rw [iter_s pq3 j]
                          first | (simp only [pq3, if_pos h96, if_pos h110]; done) | (simp only [pq3, if_pos h96, if_neg h110]; done) | (simp only [pq3, if_neg h96]; done)
                        repeat (first | exact gm_le_nil | refine gm_le_c ?_ | refine gm_le_n ?_)
              try dsimp only at lp80
              refine go_sub lp80 ?_
              repeat (first | exact gm_le_nil | refine gm_le_c ?_ | refine gm_le_n ?_)
            ·
              exact absurd (show nI 5 ≤ nI 5 from nI_le (Nat.le_refl _) (by decide)) h33
          · try dsimp only at ih ⊢
            refine go_iload_n hC dX2_passQuiet_31 rfl ?_
            refine go_iload_n hC dX2_passQuiet_32 rfl ?_
            refine go_icmp_ge hC 70 dX2_passQuiet_33 (by decide) (fun h33 => ?_) (fun h33 => ?_)
            ·
              exact absurd h33 (show ¬ nI 5 ≤ nI j from nI_ge hj (by decide))
            ·
              refine go_aload_n hC dX2_passQuiet_36 rfl ?_
              refine go_iload_n hC dX2_passQuiet_37 rfl ?_
              refine go_aald hC rfl (fun _ => rfl) (by first | decide | (show _ < 5; omega) | (show _ < 10; omega) | omega) (gm_in rfl (by omega) (by decide)) (gm_cu rfl (by omega)) dX2_passQuiet_38 ?_
              refine go_astore hC dX2_passQuiet_39 (Nat.le_of_ble_eq_true rfl) ?_
              simp only [gm_s0, gm_s1]
              refine go_aload hC dX2_passQuiet_41 rfl ?_
              refine go_geti (ci := 1) hC 1 kwX2_passQuiet_1 rfl rfl (by decide) rfl lkX2_passQuiet_58 (by first | decide | (show _ < 5; omega) | (show _ < 10; omega) | omega) dX2_passQuiet_43 ?_
              refine go_iconst (v := 1) hC dX2_passQuiet_46 (by decide) ?_
              refine go_icmp_ne hC 64 dX2_passQuiet_47 (by decide) (fun h47 => ?_) (fun h47 => ?_)
              ·
                refine go_iinc (v := 1) hC dX2_passQuiet_64 rfl (by decide) ?_
                simp only [gm_s0, gm_s1]
                refine go_goto hC 31 dX2_passQuiet_67 (by decide) ?_
                rw [nI_1]
                refine go_sub (go_mem ?_ ih) ?_
                · rw [iter_s pq2 j]
                  first | (simp only [pq2, if_pos h47]; done) | (simp only [pq2, if_neg h47]; done)
                repeat (first | exact gm_le_nil | refine gm_le_c ?_ | refine gm_le_n ?_)
              ·
                refine go_aload_n hC dX2_passQuiet_50 rfl ?_
                refine go_getr (ci := 2) hC 3 kwX2_passQuiet_2 rfl rfl (by decide) rfl lkX2_passQuiet_23 (by first | decide | (show _ < 5; omega) | (show _ < 10; omega) | omega) dX2_passQuiet_51 ?_
                refine go_aload hC dX2_passQuiet_54 rfl ?_
                refine go_callV (n := 0) (k0 := 1) (n0 := j) hC hX (c_X1_answerWindow _ _ (by omega)) gX2_passQuiet_X1_answerWindow rfl (by decide +kernel) ⟨rfl, rfl⟩ (by rw [hR]; exact ⟨by decide, by decide⟩) (by rw [hR]; exact ⟨by decide, by decide⟩) rfl rfl rfl (by first | decide | (show _ < 5; omega) | (show _ < 10; omega) | omega) rfl rfl rfl (Nat.le_of_ble_eq_true rfl) dX2_passQuiet_56 ?_
                simp only [gm_r0, gm_r1]
                have hw8 := wN_lt (iter pq2 j (iter pq1 8 M)) j
                have hwe := wN_eq (iter pq2 j (iter pq1 8 M)) j
                refine go_dup2 hC dX2_passQuiet_59 rfl rfl ?_
                refine go_iald hC rfl (by first | decide | (show _ < 5; omega) | (show _ < 10; omega) | omega) (gm_in hwe (by omega) (by decide)) (gm_cl hwe (by omega)) dX2_passQuiet_60 ?_
                refine go_iconst (v := 1) hC dX2_passQuiet_61 (by decide) ?_
                refine go_iadd hC dX2_passQuiet_62 ?_
                refine go_iast hC rfl (by first | decide | (show _ < 5; omega) | (show _ < 10; omega) | omega) (gm_in hwe (by omega) (by decide)) (gm_cl hwe (by omega)) dX2_passQuiet_63 ?_
                refine go_iinc (v := 1) hC dX2_passQuiet_64 rfl (by decide) ?_
                simp only [gm_s0, gm_s1]
                refine go_goto hC 31 dX2_passQuiet_67 (by decide) ?_
                rw [nI_1]
                refine go_sub (go_mem ?_ ih) ?_
                · rw [iter_s pq2 j]
                  first | (simp only [pq2, if_pos h47]; done) | (simp only [pq2, if_neg h47]; done)
                repeat (first | exact gm_le_nil | refine gm_le_c ?_ | refine gm_le_n ?_)
        try dsimp only at lp31
        refine go_sub lp31 ?_
        repeat (first | exact gm_le_nil | refine gm_le_c ?_ | refine gm_le_n ?_)
      ·
        exact absurd (show nI 8 ≤ nI 8 from nI_le (Nat.le_refl _) (by decide)) h5
    · try dsimp only at ih ⊢
      refine go_iload_n hC dX2_passQuiet_2 rfl ?_
      refine go_bipush (v := 8) hC dX2_passQuiet_3 (by decide) ?_
      refine go_icmp_ge hC 21 dX2_passQuiet_5 (by decide) (fun h5 => ?_) (fun h5 => ?_)
      ·
        exact absurd h5 (show ¬ nI 8 ≤ nI j from nI_ge hj (by decide))
      ·
        refine go_aload_n hC dX2_passQuiet_8 rfl ?_
        refine go_getr (ci := 2) hC 3 kwX2_passQuiet_2 rfl rfl (by decide) rfl lkX2_passQuiet_23 (by first | decide | (show _ < 5; omega) | (show _ < 10; omega) | omega) dX2_passQuiet_9 ?_
        refine go_iload_n hC dX2_passQuiet_12 rfl ?_
        refine go_iconst (v := 0) hC dX2_passQuiet_13 (by decide) ?_
        refine go_iast hC rfl (by first | decide | (show _ < 5; omega) | (show _ < 10; omega) | omega) (gm_in rfl (by omega) (by decide)) (gm_cl rfl (by omega)) dX2_passQuiet_14 ?_
        refine go_iinc (v := 1) hC dX2_passQuiet_15 rfl (by decide) ?_
        simp only [gm_s0, gm_s1]
        refine go_goto hC 2 dX2_passQuiet_18 (by decide) ?_
        rw [nI_1]
        exact ih
  try dsimp only at lp2
  refine go_iconst (v := 0) hC dX2_passQuiet_0 (by decide) ?_
  refine go_istore_n hC 1 dX2_passQuiet_1 rfl (Nat.le_of_ble_eq_true rfl) ?_
  simp only [gm_s0, gm_s1]
  exact lp2
