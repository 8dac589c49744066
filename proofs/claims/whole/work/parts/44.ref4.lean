/-! ===== the reference (4) ===== -/
abbrev isJ (G : gm_M) (u j : Nat) : Prop := G 2 u 0 = 1 ∧ ∀ k, k < j → (k = u ∨ ¬ G 2 k 0 = 1 ∨ ¬ winF (G 3 k 0) (G 5 k 0) = winF (G 3 u 0) (G 5 u 0))
def alB (b : Nat → Bool) : Nat → Int32
  | 0 => 0
  | j + 1 => if b j then alB b j ||| (1 <<< (nI j &&& 31)) else alB b j
theorem alB_bit5 : ∀ b0 b1 b2 b3 b4 : Bool, ∀ j : Fin 5, (((alB (fun k => match k with | 0 => b0 | 1 => b1 | 2 => b2 | 3 => b3 | _ => b4) 5 >>> (nI j.val &&& 31)) &&& 1 = 1) ↔ (match j.val with | 0 => b0 | 1 => b1 | 2 => b2 | 3 => b3 | _ => b4) = true) := by decide +kernel
theorem alB_ext {b c : Nat → Bool} : ∀ n, (∀ k, k < n → b k = c k) → alB b n = alB c n
  | 0, _ => rfl
  | n + 1, h => by
    have e := alB_ext n (fun k hk => h k (by omega))
    simp only [alB, e, h n (by omega)]
theorem alB_bit (b : Nat → Bool) (j : Nat) (hj : j < 5) : ((alB b 5 >>> (nI j &&& 31)) &&& 1 = 1) ↔ b j = true := by
  have h := alB_bit5 (b 0) (b 1) (b 2) (b 3) (b 4) ⟨j, hj⟩
  have e : alB b 5 = alB (fun k => match k with | 0 => b 0 | 1 => b 1 | 2 => b 2 | 3 => b 3 | _ => b 4) 5 := alB_ext 5 (fun k hk => by rcases (show k = 0 ∨ k = 1 ∨ k = 2 ∨ k = 3 ∨ k = 4 by omega) with rfl | rfl | rfl | rfl | rfl <;> rfl)
  rw [e]
  refine h.trans ?_
  rcases (show j = 0 ∨ j = 1 ∨ j = 2 ∨ j = 3 ∨ j = 4 by omega) with rfl | rfl | rfl | rfl | rfl <;> exact Iff.rfl
noncomputable def isB (G : gm_M) : Nat → Bool := fun j => @decide (isJ G j 5) (Classical.propDecidable _)
theorem isB_t {G : gm_M} {j : Nat} : isB G j = true ↔ isJ G j 5 := @decide_eq_true_iff _ (Classical.propDecidable _)
noncomputable def qf2 (G0 : gm_M) : Nat → gm_M → gm_M := fun u G => tM (isJ G0 u 5) (lvM (gm_up G 2 u 0 2) u) (if G 2 u 0 = 1 then gm_up G 5 u 0 (G 5 u 0 + 1) else G)
theorem kwX3_quietFrame_3 : ∀ w ∈ wsX30, w ∈ wsX3_quietFrame := by decide +kernel
theorem lkX3_quietFrame_7 : Cond.fieldLink RX3 7 "SharedFibreModel" "state" "[I" ∈ wsX3_quietFrame := by decide +kernel
theorem lkX3_quietFrame_19 : Cond.fieldLink RX3 19 "SharedFibreModel" "answered" "[I" ∈ wsX3_quietFrame := by decide +kernel
set_option maxHeartbeats 4000000 in
set_option maxRecDepth 100000 in
/-- the reference: X3_quietFrame -/
theorem c_X3_quietFrame (G : gm_M) : KC lyM yX3_quietFrame wsX3_quietFrame ({ frames := 2, cells := 0, slots := 0, locals := 44 }) (fun ad => [.ref (ad 0 0)]) G (fun _ => none) (iter (qf2 G) 5 G) := by
  refine KC.of_v (by decide) rfl rfl (fun _ => by simp) (fun _ => by simp [Value.category])  ?_
  intro X hC hR hX hE
  simp only [List.map_cons, List.map_nil, List.cons_append, List.nil_append, List.length_cons, List.length_nil, List.replicate, Nat.reduceAdd, Nat.reduceSub]
  have lp4 : (fun j : Nat => GO lyM X 0 0 4 [some (.ref (gm_ad X 0 0)), some (.int (alB (isB G) j)), some (.int (nI j)), none, none] [] G) 0 := by
    refine loopN (5) (fun j : Nat => GO lyM X 0 0 4 [some (.ref (gm_ad X 0 0)), some (.int (alB (isB G) j)), some (.int (nI j)), none, none] [] G) ?_ (fun j hj ih => ?_)
    · try dsimp only
      refine go_iload_n hC dX3_quietFrame_4 rfl ?_
      refine go_iconst (v := 5) hC dX3_quietFrame_5 (by decide) ?_
      refine go_icmp_ge hC 101 dX3_quietFrame_6 (by decide) (fun h6 => ?_) (fun h6 => ?_)
      ·
        refine go_iconst (v := 0) hC dX3_quietFrame_101 (by decide) ?_
        refine go_istore_n hC 2 dX3_quietFrame_102 rfl (Nat.le_of_ble_eq_true rfl) ?_
        simp only [gm_s0, gm_s1]
        have lp103 : (fun j : Nat => GO lyM X 0 0 103 [some (.ref (gm_ad X 0 0)), some (.int (alB (isB G) 5)), some (.int (nI j)), none, none] [] (iter (qf2 G) j G)) 0 := by
          refine loopN (5) (fun j : Nat => GO lyM X 0 0 103 [some (.ref (gm_ad X 0 0)), some (.int (alB (isB G) 5)), some (.int (nI j)), none, none] [] (iter (qf2 G) j G)) ?_ (fun j hj ih => ?_)
          · try dsimp only
            refine go_iload_n hC dX3_quietFrame_103 rfl ?_
            refine go_iconst (v := 5) hC dX3_quietFrame_104 (by decide) ?_
            refine go_icmp_ge hC 158 dX3_quietFrame_105 (by decide) (fun h105 => ?_) (fun h105 => ?_)
            ·
              refine go_cast ?_ ?_ (hE _ _ dX3_quietFrame_158)
              · first | rfl | (simp [*]; done) | (simp [*, gm_us, gm_un1, gm_un2]; done)
              · first | rfl | (simp [*]; done) | (simp [*, gm_us, gm_un1, gm_un2]; done)
            ·
              exact absurd (show nI 5 ≤ nI 5 from nI_le (Nat.le_refl _) (by decide)) h105
          · try dsimp only at ih ⊢
            refine go_iload_n hC dX3_quietFrame_103 rfl ?_
            refine go_iconst (v := 5) hC dX3_quietFrame_104 (by decide) ?_
            refine go_icmp_ge hC 158 dX3_quietFrame_105 (by decide) (fun h105 => ?_) (fun h105 => ?_)
            ·
              exact absurd h105 (show ¬ nI 5 ≤ nI j from nI_ge hj (by decide))
            ·
              refine go_iload_n hC dX3_quietFrame_108 rfl ?_
              refine go_iload_n hC dX3_quietFrame_109 rfl ?_
              refine go_ishr hC dX3_quietFrame_110 ?_
              refine go_iconst (v := 1) hC dX3_quietFrame_111 (by decide) ?_
              refine go_iand hC dX3_quietFrame_112 ?_
              refine go_iconst (v := 1) hC dX3_quietFrame_113 (by decide) ?_
              refine go_icmp_ne hC 132 dX3_quietFrame_114 (by decide) (fun h114 => ?_) (fun h114 => ?_)
              ·
                refine go_aload_n hC dX3_quietFrame_132 rfl ?_
                refine go_getr (ci := 3) hC 1 kwX3_quietFrame_3 rfl rfl (by decide) rfl lkX3_quietFrame_7 (by first | decide | (show _ < 5; omega) | (show _ < 10; omega) | omega) dX3_quietFrame_133 ?_
                refine go_iload_n hC dX3_quietFrame_136 rfl ?_
                refine go_iald hC rfl (by first | decide | (show _ < 5; omega) | (show _ < 10; omega) | omega) (gm_in rfl (by omega) (by decide)) (gm_cl rfl (by omega)) dX3_quietFrame_137 ?_
                refine go_iconst (v := 1) hC dX3_quietFrame_138 (by decide) ?_
                refine go_icmp_ne hC 152 dX3_quietFrame_139 (by decide) (fun h139 => ?_) (fun h139 => ?_)
                ·
                  refine go_iinc (v := 1) hC dX3_quietFrame_152 rfl (by decide) ?_
                  simp only [gm_s0, gm_s1]
                  refine go_goto hC 103 dX3_quietFrame_155 (by decide) ?_
                  rw [nI_1]
                  refine go_mem ?_ ih
                  rw [iter_s (qf2 G) j]
                  first | exact (tM_t (isB_t.mp ((alB_bit (isB G) j hj).mp h114))).symm | (rw [show qf2 G j (iter (qf2 G) j G) = _ from tM_f (fun q => h114 ((alB_bit (isB G) j hj).mpr (isB_t.mpr q)))]; first | exact (if_neg h139).symm | exact (if_pos h139).symm)
                ·
                  refine go_aload_n hC dX3_quietFrame_142 rfl ?_
                  refine go_getr (ci := 3) hC 4 kwX3_quietFrame_3 rfl rfl (by decide) rfl lkX3_quietFrame_19 (by first | decide | (show _ < 5; omega) | (show _ < 10; omega) | omega) dX3_quietFrame_143 ?_
                  refine go_iload_n hC dX3_quietFrame_146 rfl ?_
                  refine go_dup2 hC dX3_quietFrame_147 rfl rfl ?_
                  refine go_iald hC rfl (by first | decide | (show _ < 5; omega) | (show _ < 10; omega) | omega) (gm_in rfl (by omega) (by decide)) (gm_cl rfl (by omega)) dX3_quietFrame_148 ?_
                  refine go_iconst (v := 1) hC dX3_quietFrame_149 (by decide) ?_
                  refine go_iadd hC dX3_quietFrame_150 ?_
                  refine go_iast hC rfl (by first | decide | (show _ < 5; omega) | (show _ < 10; omega) | omega) (gm_in rfl (by omega) (by decide)) (gm_cl rfl (by omega)) dX3_quietFrame_151 ?_
                  refine go_iinc (v := 1) hC dX3_quietFrame_152 rfl (by decide) ?_
                  simp only [gm_s0, gm_s1]
                  refine go_goto hC 103 dX3_quietFrame_155 (by decide) ?_
                  rw [nI_1]
                  refine go_mem ?_ ih
                  rw [iter_s (qf2 G) j]
                  first | exact (tM_t (isB_t.mp ((alB_bit (isB G) j hj).mp h114))).symm | (rw [show qf2 G j (iter (qf2 G) j G) = _ from tM_f (fun q => h114 ((alB_bit (isB G) j hj).mpr (isB_t.mpr q)))]; first | exact (if_neg h139).symm | exact (if_pos h139).symm)
              ·
                refine go_aload_n hC dX3_quietFrame_117 rfl ?_
                refine go_getr (ci := 3) hC 1 kwX3_quietFrame_3 rfl rfl (by decide) rfl lkX3_quietFrame_7 (by first | decide | (show _ < 5; omega) | (show _ < 10; omega) | omega) dX3_quietFrame_118 ?_
                refine go_iload_n hC dX3_quietFrame_121 rfl ?_
                refine go_iconst (v := 2) hC dX3_quietFrame_122 (by decide) ?_
                refine go_iast hC rfl (by first | decide | (show _ < 5; omega) | (show _ < 10; omega) | omega) (gm_in rfl (by omega) (by decide)) (gm_cl rfl (by omega)) dX3_quietFrame_123 ?_
                refine go_aload_n hC dX3_quietFrame_124 rfl ?_
                refine go_iload_n hC dX3_quietFrame_125 rfl ?_
                refine go_callV (n := 1) (k0 := 0) (n0 := 0) hC hX (c_X3_level _ j hj) gX3_quietFrame_X3_level rfl (by decide +kernel) ⟨rfl, rfl⟩ (by rw [hR]; exact ⟨by decide, by decide⟩) (by rw [hR]; exact ⟨by decide, by decide⟩) rfl rfl rfl (by first | decide | (show _ < 5; omega) | (show _ < 10; omega) | omega) rfl rfl rfl (Nat.le_of_ble_eq_true rfl) dX3_quietFrame_126 ?_
                simp only [gm_r0, gm_r1]
                refine go_goto hC 152 dX3_quietFrame_129 (by decide) ?_
                refine go_iinc (v := 1) hC dX3_quietFrame_152 rfl (by decide) ?_
                simp only [gm_s0, gm_s1]
                refine go_goto hC 103 dX3_quietFrame_155 (by decide) ?_
                rw [nI_1]
                refine go_mem ?_ ih
                rw [iter_s (qf2 G) j]
                first | exact (tM_t (isB_t.mp ((alB_bit (isB G) j hj).mp h114))).symm | (rw [show qf2 G j (iter (qf2 G) j G) = _ from tM_f (fun q => h114 ((alB_bit (isB G) j hj).mpr (isB_t.mpr q)))]; first | exact (if_neg h139).symm | exact (if_pos h139).symm)
        try dsimp only at lp103
        refine go_sub lp103 ?_
        repeat (first | exact gm_le_nil | refine gm_le_c ?_ | refine gm_le_n ?_)
      ·
        exact absurd (show nI 5 ≤ nI 5 from nI_le (Nat.le_refl _) (by decide)) h6
    · try dsimp only at ih ⊢
      refine go_iload_n hC dX3_quietFrame_4 rfl ?_
      refine go_iconst (v := 5) hC dX3_quietFrame_5 (by decide) ?_
      refine go_icmp_ge hC 101 dX3_quietFrame_6 (by decide) (fun h6 => ?_) (fun h6 => ?_)
      ·
        exact absurd h6 (show ¬ nI 5 ≤ nI j from nI_ge hj (by decide))
      ·
        refine go_joinI (jpc := 24) (tF (isJ G j 0)) ?_ (fun hj24 => ?_)
        ·
          refine go_istore_n hC 3 dX3_quietFrame_24 rfl (Nat.le_of_ble_eq_true rfl) ?_
          simp only [gm_s0, gm_s1]
          refine go_iconst (v := 0) hC dX3_quietFrame_25 (by decide) ?_
          refine go_istore hC dX3_quietFrame_26 (Nat.le_of_ble_eq_true rfl) ?_
          simp only [gm_s0, gm_s1]
          have h81 : GO lyM X 0 0 81 [some (.ref (gm_ad X 0 0)), some (.int (alB (isB G) j)), some (.int (nI j)), some (.int (tF (isJ G j 5))), none] [] G := by
            refine go_joinI (jpc := 94) (alB (isB G) (j + 1)) ?_ (fun hj94 => ?_)
            ·
              refine go_istore_n hC 1 dX3_quietFrame_94 rfl (Nat.le_of_ble_eq_true rfl) ?_
              simp only [gm_s0, gm_s1]
              refine go_iinc (v := 1) hC dX3_quietFrame_95 rfl (by decide) ?_
              simp only [gm_s0, gm_s1]
              refine go_goto hC 4 dX3_quietFrame_98 (by decide) ?_
              rw [nI_1]
              refine go_sub ih ?_
              repeat (first | exact gm_le_nil | refine gm_le_c ?_ | refine gm_le_n ?_)
            ·
              refine go_iload_n hC dX3_quietFrame_81 rfl ?_
              refine go_if_eq hC 93 dX3_quietFrame_82 (by decide) (fun h82 => ?_) (fun h82 => ?_)
              ·
                refine go_iload_n hC dX3_quietFrame_93 rfl ?_
                refine go_cast ?_ rfl hj94
                first | rw [show alB (isB G) (j + 1) = _ from if_neg (fun q => tF_eq h82 (isB_t.mp q))] | rw [show alB (isB G) (j + 1) = _ from if_pos (isB_t.mpr (tF_ne h82))]
              ·
                refine go_iload_n hC dX3_quietFrame_85 rfl ?_
                refine go_iconst (v := 1) hC dX3_quietFrame_86 (by decide) ?_
                refine go_iload_n hC dX3_quietFrame_87 rfl ?_
                refine go_ishl hC dX3_quietFrame_88 ?_
                refine go_ior hC dX3_quietFrame_89 ?_
                refine go_goto hC 94 dX3_quietFrame_90 (by decide) ?_
                refine go_cast ?_ rfl hj94
                first | rw [show alB (isB G) (j + 1) = _ from if_neg (fun q => tF_eq h82 (isB_t.mp q))] | rw [show alB (isB G) (j + 1) = _ from if_pos (isB_t.mpr (tF_ne h82))]
          have lp28 : (fun i : Nat => GO lyM X 0 0 28 [some (.ref (gm_ad X 0 0)), some (.int (alB (isB G) j)), some (.int (nI j)), some (.int (tF (isJ G j i))), some (.int (nI i))] [] G) 0 := by
            refine loopN (5) (fun i : Nat => GO lyM X 0 0 28 [some (.ref (gm_ad X 0 0)), some (.int (alB (isB G) j)), some (.int (nI j)), some (.int (tF (isJ G j i))), some (.int (nI i))] [] G) ?_ (fun i hi ihi => ?_)
            · try dsimp only
              refine go_iload hC dX3_quietFrame_28 rfl ?_
              refine go_iconst (v := 5) hC dX3_quietFrame_30 (by decide) ?_
              refine go_icmp_ge hC 81 dX3_quietFrame_31 (by decide) (fun h31 => ?_) (fun h31 => ?_)
              ·
                refine go_sub h81 ?_
                repeat (first | exact gm_le_nil | refine gm_le_c ?_ | refine gm_le_n ?_)
              ·
                exact absurd (show nI 5 ≤ nI 5 from nI_le (Nat.le_refl _) (by decide)) h31
            · try dsimp only at ihi ⊢
              refine go_iload hC dX3_quietFrame_28 rfl ?_
              refine go_iconst (v := 5) hC dX3_quietFrame_30 (by decide) ?_
              refine go_icmp_ge hC 81 dX3_quietFrame_31 (by decide) (fun h31 => ?_) (fun h31 => ?_)
              ·
                exact absurd h31 (show ¬ nI 5 ≤ nI i from nI_ge hi (by decide))
              ·
                refine go_iload_n hC dX3_quietFrame_34 rfl ?_
                refine go_if_eq hC 81 dX3_quietFrame_35 (by decide) (fun h35 => ?_) (fun h35 => ?_)
                ·
                  rw [show tF (isJ G j i) = tF (isJ G j 5) by rw [h35, tF_f (fun q => tF_eq h35 ⟨q.1, fun k hk => q.2 k (by omega)⟩)]]
                  refine go_sub h81 ?_
                  repeat (first | exact gm_le_nil | refine gm_le_c ?_ | refine gm_le_n ?_)
                ·
                  have hij := tF_ne h35
                  refine go_joinI (jpc := 74) (tF (isJ G j (i + 1))) ?_ (fun hj74 => ?_)
                  ·
                    refine go_istore_n hC 3 dX3_quietFrame_74 rfl (Nat.le_of_ble_eq_true rfl) ?_
                    simp only [gm_s0, gm_s1]
                    refine go_iinc (v := 1) hC dX3_quietFrame_75 rfl (by decide) ?_
                    simp only [gm_s0, gm_s1]
                    refine go_goto hC 28 dX3_quietFrame_78 (by decide) ?_
                    rw [nI_1]
                    exact ihi
                  ·
                    refine go_iload hC dX3_quietFrame_38 rfl ?_
                    refine go_iload_n hC dX3_quietFrame_40 rfl ?_
                    refine go_icmp_eq hC 69 dX3_quietFrame_41 (by decide) (fun h41 => ?_) (fun h41 => ?_)
                    ·
                      refine go_iconst (v := 1) hC dX3_quietFrame_69 (by decide) ?_
                      refine go_goto hC 74 dX3_quietFrame_70 (by decide) ?_
                      refine go_cast ?_ rfl hj74
                      first | rw [tF_t (P := isJ G j (i + 1)) ⟨hij.1, (fun k hk => by rcases Nat.lt_succ_iff_lt_or_eq.mp hk with q | q; exact hij.2 k q; subst q; exact Or.inl ((nI_eq (by omega) (by omega)).mp h41))⟩] | rw [tF_t (P := isJ G j (i + 1)) ⟨hij.1, (fun k hk => by rcases Nat.lt_succ_iff_lt_or_eq.mp hk with q | q; exact hij.2 k q; subst q; exact Or.inr (Or.inl h52))⟩] | rw [tF_f (P := isJ G j (i + 1)) (fun q => (q.2 i (Nat.lt_succ_self i)).elim (fun e => h41 (by rw [e])) (fun q => q.elim (fun q => q h52) (fun q => q h66)))] | rw [tF_t (P := isJ G j (i + 1)) ⟨hij.1, (fun k hk => by rcases Nat.lt_succ_iff_lt_or_eq.mp hk with q | q; exact hij.2 k q; subst q; exact Or.inr (Or.inr h66))⟩]
                    ·
                      refine go_aload_n hC dX3_quietFrame_44 rfl ?_
                      refine go_getr (ci := 3) hC 1 kwX3_quietFrame_3 rfl rfl (by decide) rfl lkX3_quietFrame_7 (by first | decide | (show _ < 5; omega) | (show _ < 10; omega) | omega) dX3_quietFrame_45 ?_
                      refine go_iload hC dX3_quietFrame_48 rfl ?_
                      refine go_iald hC rfl (by first | decide | (show _ < 5; omega) | (show _ < 10; omega) | omega) (gm_in rfl (by omega) (by decide)) (gm_cl rfl (by omega)) dX3_quietFrame_50 ?_
                      refine go_iconst (v := 1) hC dX3_quietFrame_51 (by decide) ?_
                      refine go_icmp_ne hC 69 dX3_quietFrame_52 (by decide) (fun h52 => ?_) (fun h52 => ?_)
                      ·
                        refine go_iconst (v := 1) hC dX3_quietFrame_69 (by decide) ?_
                        refine go_goto hC 74 dX3_quietFrame_70 (by decide) ?_
                        refine go_cast ?_ rfl hj74
                        first | rw [tF_t (P := isJ G j (i + 1)) ⟨hij.1, (fun k hk => by rcases Nat.lt_succ_iff_lt_or_eq.mp hk with q | q; exact hij.2 k q; subst q; exact Or.inl ((nI_eq (by omega) (by omega)).mp h41))⟩] | rw [tF_t (P := isJ G j (i + 1)) ⟨hij.1, (fun k hk => by rcases Nat.lt_succ_iff_lt_or_eq.mp hk with q | q; exact hij.2 k q; subst q; exact Or.inr (Or.inl h52))⟩] | rw [tF_f (P := isJ G j (i + 1)) (fun q => (q.2 i (Nat.lt_succ_self i)).elim (fun e => h41 (by rw [e])) (fun q => q.elim (fun q => q h52) (fun q => q h66)))] | rw [tF_t (P := isJ G j (i + 1)) ⟨hij.1, (fun k hk => by rcases Nat.lt_succ_iff_lt_or_eq.mp hk with q | q; exact hij.2 k q; subst q; exact Or.inr (Or.inr h66))⟩]
                      ·
                        refine go_aload_n hC dX3_quietFrame_55 rfl ?_
                        refine go_iload hC dX3_quietFrame_56 rfl ?_
                        refine go_callV (n := 1) (k0 := 0) (n0 := 0) hC hX (c_X3_window _ i hi) gX3_quietFrame_X3_window rfl (by decide +kernel) ⟨rfl, rfl⟩ (by rw [hR]; exact ⟨by decide, by decide⟩) (by rw [hR]; exact ⟨by decide, by decide⟩) rfl rfl rfl (by first | decide | (show _ < 5; omega) | (show _ < 10; omega) | omega) rfl rfl rfl (Nat.le_of_ble_eq_true rfl) dX3_quietFrame_58 ?_
                        simp only [gm_r0, gm_r1]
                        refine go_aload_n hC dX3_quietFrame_61 rfl ?_
                        refine go_iload_n hC dX3_quietFrame_62 rfl ?_
                        refine go_callV (n := 1) (k0 := 0) (n0 := 0) hC hX (c_X3_window _ j hj) gX3_quietFrame_X3_window rfl (by decide +kernel) ⟨rfl, rfl⟩ (by rw [hR]; exact ⟨by decide, by decide⟩) (by rw [hR]; exact ⟨by decide, by decide⟩) rfl rfl rfl (by first | decide | (show _ < 5; omega) | (show _ < 10; omega) | omega) rfl rfl rfl (Nat.le_of_ble_eq_true rfl) dX3_quietFrame_63 ?_
                        simp only [gm_r0, gm_r1]
                        refine go_icmp_eq hC 73 dX3_quietFrame_66 (by decide) (fun h66 => ?_) (fun h66 => ?_)
                        ·
                          refine go_iconst (v := 0) hC dX3_quietFrame_73 (by decide) ?_
                          refine go_cast ?_ rfl hj74
                          first | rw [tF_t (P := isJ G j (i + 1)) ⟨hij.1, (fun k hk => by rcases Nat.lt_succ_iff_lt_or_eq.mp hk with q | q; exact hij.2 k q; subst q; exact Or.inl ((nI_eq (by omega) (by omega)).mp h41))⟩] | rw [tF_t (P := isJ G j (i + 1)) ⟨hij.1, (fun k hk => by rcases Nat.lt_succ_iff_lt_or_eq.mp hk with q | q; exact hij.2 k q; subst q; exact Or.inr (Or.inl h52))⟩] | rw [tF_f (P := isJ G j (i + 1)) (fun q => (q.2 i (Nat.lt_succ_self i)).elim (fun e => h41 (by rw [e])) (fun q => q.elim (fun q => q h52) (fun q => q h66)))] | rw [tF_t (P := isJ G j (i + 1)) ⟨hij.1, (fun k hk => by rcases Nat.lt_succ_iff_lt_or_eq.mp hk with q | q; exact hij.2 k q; subst q; exact Or.inr (Or.inr h66))⟩]
                        ·
                          refine go_iconst (v := 1) hC dX3_quietFrame_69 (by decide) ?_
                          refine go_goto hC 74 dX3_quietFrame_70 (by decide) ?_
                          refine go_cast ?_ rfl hj74
                          first | rw [tF_t (P := isJ G j (i + 1)) ⟨hij.1, (fun k hk => by rcases Nat.lt_succ_iff_lt_or_eq.mp hk with q | q; exact hij.2 k q; subst q; exact Or.inl ((nI_eq (by omega) (by omega)).mp h41))⟩] | rw [tF_t (P := isJ G j (i + 1)) ⟨hij.1, (fun k hk => by rcases Nat.lt_succ_iff_lt_or_eq.mp hk with q | q; exact hij.2 k q; subst q; exact Or.inr (Or.inl h52))⟩] | rw [tF_f (P := isJ G j (i + 1)) (fun q => (q.2 i (Nat.lt_succ_self i)).elim (fun e => h41 (by rw [e])) (fun q => q.elim (fun q => q h52) (fun q => q h66)))] | rw [tF_t (P := isJ G j (i + 1)) ⟨hij.1, (fun k hk => by rcases Nat.lt_succ_iff_lt_or_eq.mp hk with q | q; exact hij.2 k q; subst q; exact Or.inr (Or.inr h66))⟩]
          try dsimp only at lp28
          exact lp28
        ·
          refine go_aload_n hC dX3_quietFrame_9 rfl ?_
          refine go_getr (ci := 3) hC 1 kwX3_quietFrame_3 rfl rfl (by decide) rfl lkX3_quietFrame_7 (by first | decide | (show _ < 5; omega) | (show _ < 10; omega) | omega) dX3_quietFrame_10 ?_
          refine go_iload_n hC dX3_quietFrame_13 rfl ?_
          refine go_iald hC rfl (by first | decide | (show _ < 5; omega) | (show _ < 10; omega) | omega) (gm_in rfl (by omega) (by decide)) (gm_cl rfl (by omega)) dX3_quietFrame_14 ?_
          refine go_iconst (v := 1) hC dX3_quietFrame_15 (by decide) ?_
          refine go_icmp_ne hC 23 dX3_quietFrame_16 (by decide) (fun h16 => ?_) (fun h16 => ?_)
          ·
            refine go_iconst (v := 0) hC dX3_quietFrame_23 (by decide) ?_
            refine go_cast ?_ rfl hj24
            first | rw [tF_f (fun q => h16 q.1)] | rw [tF_t (P := isJ G j 0) ⟨h16, fun k hk => absurd hk (Nat.not_lt_zero _)⟩]
          ·
            refine go_iconst (v := 1) hC dX3_quietFrame_19 (by decide) ?_
            refine go_goto hC 24 dX3_quietFrame_20 (by decide) ?_
            refine go_cast ?_ rfl hj24
            first | rw [tF_f (fun q => h16 q.1)] | rw [tF_t (P := isJ G j 0) ⟨h16, fun k hk => absurd hk (Nat.not_lt_zero _)⟩]
  try dsimp only at lp4
  refine go_iconst (v := 0) hC dX3_quietFrame_0 (by decide) ?_
  refine go_istore_n hC 1 dX3_quietFrame_1 rfl (Nat.le_of_ble_eq_true rfl) ?_
  simp only [gm_s0, gm_s1]
  refine go_iconst (v := 0) hC dX3_quietFrame_2 (by decide) ?_
  refine go_istore_n hC 2 dX3_quietFrame_3 rfl (Nat.le_of_ble_eq_true rfl) ?_
  simp only [gm_s0, gm_s1]
  exact lp4
def mp1 : Nat → gm_M → gm_M := fun u G => gm_up G 0 37 0 (G 0 37 0 - (if G 2 u 0 = 2 then 1 else 0))
def suM (b a : Int32) : Int32 := if 0 ≤ b then (if a ≤ b then a else b) else 0
def gvM (G : gm_M) (c : Nat) : Int32 := if G 2 (c / 2) 0 = 2 then G 20 c 0 + suM (G 24 c 0 - G 20 c 0) (G 21 c 0) else 0
def mp2 : Nat → gm_M → gm_M := fun c G => gm_up (gm_up (gm_up G 25 c 0 (gvM G c)) 26 c 0 0) 0 37 0 (G 0 37 0 - gvM G c)
abbrev nLm (G : gm_M) (c b : Nat) : Prop := ¬ G 26 b 0 * G 23 c 0 ≤ G 26 c 0 * G 23 b 0
noncomputable def bsM (G : gm_M) : Nat → Option Nat
  | 0 => none
  | c + 1 => match bsM G c with
    | none => if nWm G c then some c else none
    | some b => if nWm G c ∧ nLm G c b then some c else some b
theorem bsM_A {G : gm_M} {c : Nat} (h : ¬ nWm G c) : bsM G (c + 1) = bsM G c := by
  cases ho : bsM G c with
  | none => simp only [bsM, ho]; exact if_neg h
  | some b => simp only [bsM, ho]; exact if_neg (fun q => h q.1)
theorem bsM_B {G : gm_M} {c : Nat} (ho : bsM G c = none) (h : nWm G c) : bsM G (c + 1) = some c := by
  simp only [bsM, ho]; exact if_pos h
theorem bsM_C {G : gm_M} {c b : Nat} (ho : bsM G c = some b) (h : nWm G c) (hl : nLm G c b) : bsM G (c + 1) = some c := by
  simp only [bsM, ho]; exact if_pos ⟨h, hl⟩
theorem bsM_D {G : gm_M} {c b : Nat} (ho : bsM G c = some b) (hl : ¬ nLm G c b) : bsM G (c + 1) = some b := by
  simp only [bsM, ho]; exact if_neg (fun q => hl q.2)
theorem bsM_lt {G : gm_M} : ∀ {c b : Nat}, bsM G c = some b → b < c
  | 0, b, h => by cases h
  | c + 1, b, h => by
    cases ho : bsM G c with
    | none =>
      simp only [bsM, ho] at h
      split at h
      · cases h; omega
      · cases h
    | some b' =>
      have h1 := bsM_lt ho
      simp only [bsM, ho] at h
      split at h
      · cases h; omega
      · cases h; omega
def oI (o : Option Nat) : Int32 := match o with
  | none => -1
  | some c => nI c
theorem oI_lt {o : Option Nat} (h : oI o < 0) (hb : ∀ b, o = some b → b < 10) : o = none := by
  cases o with
  | none => rfl
  | some b => exact absurd h (nI_nn (by have := hb b rfl; omega))
theorem oI_ge {o : Option Nat} (h : ¬ oI o < 0) : ∃ b, o = some b := by
  cases o with
  | none => exact absurd (by decide) h
  | some b => exact ⟨b, rfl⟩
def giM (G : gm_M) (c : Nat) : gm_M := gm_up (gm_up (gm_up G 25 c 0 (G 25 c 0 + 1)) 26 c 0 (G 26 c 0 + 1)) 0 37 0 (G 0 37 0 - 1)
noncomputable def whM : Nat → gm_M → gm_M
  | 0, G => G
  | d + 1, G => match bsM G 10 with
    | none => G
    | some c => whM d (giM G c)
theorem whM_n {d : Nat} {G : gm_M} (ho : bsM G 10 = none) : whM (d + 1) G = G := by simp only [whM, ho]
theorem whM_s {d c : Nat} {G : gm_M} (ho : bsM G 10 = some c) : whM (d + 1) G = whM d (giM G c) := by simp only [whM, ho]
def mpA (G : gm_M) : gm_M := iter mp2 10 (iter mp1 5 (gm_up G 0 37 0 60))
theorem kwX3_map_3 : ∀ w ∈ wsX30, w ∈ wsX3_map := by decide +kernel
theorem lkX3_map_7 : Cond.fieldLink RX3 7 "SharedFibreModel" "state" "[I" ∈ wsX3_map := by decide +kernel
theorem lkX3_map_53 : Cond.fieldLink RX3 53 "SharedFibreModel" "fixed" "[I" ∈ wsX3_map := by decide +kernel
theorem lkX3_map_56 : Cond.fieldLink RX3 56 "SharedFibreModel" "assured" "[I" ∈ wsX3_map := by decide +kernel
theorem lkX3_map_62 : Cond.fieldLink RX3 62 "SharedFibreModel" "weight" "[I" ∈ wsX3_map := by decide +kernel
theorem lkX3_map_65 : Cond.fieldLink RX3 65 "SharedFibreModel" "reported" "[I" ∈ wsX3_map := by decide +kernel
theorem lkX3_map_68 : Cond.fieldLink RX3 68 "SharedFibreModel" "given" "[I" ∈ wsX3_map := by decide +kernel
theorem lkX3_map_71 : Cond.fieldLink RX3 71 "SharedFibreModel" "spare" "[I" ∈ wsX3_map := by decide +kernel
theorem lkX3_map_152 : Cond.fieldLink RX3 152 "SharedFibreModel" "free" "I" ∈ wsX3_map := by decide +kernel
set_option maxHeartbeats 4000000 in
set_option maxRecDepth 100000 in
/-- the reference: X3_map -/
theorem c_X3_map (G : gm_M) (b : Nat) (hb : mpA G 0 37 0 = nI b) (hb31 : b < 2 ^ 31) : KC lyM yX3_map wsX3_map ({ frames := 1, cells := 0, slots := 0, locals := 21 }) (fun ad => [.ref (ad 0 0)]) G (fun _ => none) (whM b (mpA G)) := by
  refine KC.of_v (by decide) rfl rfl (fun _ => by simp) (fun _ => by simp [Value.category])  ?_
  intro X hC hR hX hE
  simp only [List.map_cons, List.map_nil, List.cons_append, List.nil_append, List.length_cons, List.length_nil, List.replicate, Nat.reduceAdd, Nat.reduceSub]
  refine go_aload_n hC dX3_map_0 rfl ?_
  refine go_bipush (v := 60) hC dX3_map_1 (by decide) ?_
  refine go_puti (ci := 3) hC 37 kwX3_map_3 rfl tyX3 tyX3_ok nmX3 rfl (by decide) rfl lkX3_map_152 (by first | decide | (show _ < 5; omega) | (show _ < 10; omega) | omega) rfl rfl rfl dX3_map_3 ?_
  refine go_iconst (v := 0) hC dX3_map_6 (by decide) ?_
  refine go_istore_n hC 1 dX3_map_7 rfl (Nat.le_of_ble_eq_true rfl) ?_
  simp only [gm_s0, gm_s1]
  have lp8 : (fun j : Nat => GO lyM X 0 0 8 [some (.ref (gm_ad X 0 0)), some (.int (nI j)), none, none] [] (iter mp1 j (gm_up G 0 37 0 60))) 0 := by
    refine loopN (5) (fun j : Nat => GO lyM X 0 0 8 [some (.ref (gm_ad X 0 0)), some (.int (nI j)), none, none] [] (iter mp1 j (gm_up G 0 37 0 60))) ?_ (fun j hj ih => ?_)
    · try dsimp only
      refine go_iload_n hC dX3_map_8 rfl ?_
      refine go_iconst (v := 5) hC dX3_map_9 (by decide) ?_
      refine go_icmp_ge hC 43 dX3_map_10 (by decide) (fun h10 => ?_) (fun h10 => ?_)
      ·
        refine go_iconst (v := 0) hC dX3_map_43 (by decide) ?_
        refine go_istore_n hC 1 dX3_map_44 rfl (Nat.le_of_ble_eq_true rfl) ?_
        simp only [gm_s0, gm_s1]
        have lp45 : (fun j : Nat => GO lyM X 0 0 45 [some (.ref (gm_ad X 0 0)), some (.int (nI j)), none, none] [] (iter mp2 j (iter mp1 5 (gm_up G 0 37 0 60)))) 0 := by
          refine loopN (10) (fun j : Nat => GO lyM X 0 0 45 [some (.ref (gm_ad X 0 0)), some (.int (nI j)), none, none] [] (iter mp2 j (iter mp1 5 (gm_up G 0 37 0 60)))) ?_ (fun j hj ih => ?_)
          · try dsimp only
            refine go_iload_n hC dX3_map_45 rfl ?_
            refine go_bipush (v := 10) hC dX3_map_46 (by decide) ?_
            refine go_icmp_ge hC 152 dX3_map_48 (by decide) (fun h48 => ?_) (fun h48 => ?_)
            ·
              refine go_iconst (v := 1) hC dX3_map_152 (by decide) ?_
              refine go_istore_n hC 1 dX3_map_153 rfl (Nat.le_of_ble_eq_true rfl) ?_
              simp only [gm_s0, gm_s1]
              have key : ∀ (d : Nat) (G2 : gm_M), d < 2 ^ 31 → G2 0 37 0 = nI d → whM d G2 = whM b (mpA G) → GO lyM X 0 0 154 [some (.ref (gm_ad X 0 0)), some (.int 1), none, none] [] G2 := by
                intro d
                induction d with
                | zero =>
                  intro G2 hd31 hd hw
                  refine go_iload_n hC dX3_map_154 rfl ?_
                  refine go_if_eq hC 275 dX3_map_155 (by decide) (fun h155 => ?_) (fun h155 => ?_)
                  ·
                    exact absurd h155 (by decide)
                  ·
                    refine go_aload_n hC dX3_map_158 rfl ?_
                    refine go_geti (ci := 3) hC 37 kwX3_map_3 rfl rfl (by decide) rfl lkX3_map_152 (by first | decide | (show _ < 5; omega) | (show _ < 10; omega) | omega) dX3_map_159 ?_
                    refine go_if_le hC 275 dX3_map_162 (by decide) (fun h162 => ?_) (fun h162 => ?_)
                    ·
                      exact go_mem hw (hE _ _ dX3_map_275)
                    ·
                      exact absurd (by rw [hd]; decide) h162
                | succ d ihd =>
                  intro G2 hd31 hd hw
                  refine go_iload_n hC dX3_map_154 rfl ?_
                  refine go_if_eq hC 275 dX3_map_155 (by decide) (fun h155 => ?_) (fun h155 => ?_)
                  ·
                    exact absurd h155 (by decide)
                  ·
                    refine go_aload_n hC dX3_map_158 rfl ?_
                    refine go_geti (ci := 3) hC 37 kwX3_map_3 rfl rfl (by decide) rfl lkX3_map_152 (by first | decide | (show _ < 5; omega) | (show _ < 10; omega) | omega) dX3_map_159 ?_
                    refine go_if_le hC 275 dX3_map_162 (by decide) (fun h162 => ?_) (fun h162 => ?_)
                    ·
                      exact absurd h162 (by rw [hd]; exact nI_nle (by omega) (by omega))
                    ·
                      refine go_iconst (v := (-1)) hC dX3_map_165 (by decide) ?_
                      refine go_istore_n hC 2 dX3_map_166 rfl (Nat.le_of_ble_eq_true rfl) ?_
                      simp only [gm_s0, gm_s1]
                      refine go_iconst (v := 0) hC dX3_map_167 (by decide) ?_
                      refine go_istore_n hC 3 dX3_map_168 rfl (Nat.le_of_ble_eq_true rfl) ?_
                      simp only [gm_s0, gm_s1]
                      have h228 : GO lyM X 0 0 228 [some (.ref (gm_ad X 0 0)), some (.int 1), some (.int (oI (bsM G2 10))), none] [] G2 := by
                        refine go_joinI (jpc := 237) (tF (∃ c, bsM G2 10 = some c)) ?_ (fun hj237 => ?_)
                        ·
                          refine go_istore_n hC 1 dX3_map_237 rfl (Nat.le_of_ble_eq_true rfl) ?_
                          simp only [gm_s0, gm_s1]
                          refine go_iload_n hC dX3_map_238 rfl ?_
                          refine go_if_eq hC 272 dX3_map_239 (by decide) (fun h239 => ?_) (fun h239 => ?_)
                          ·
                            have ho : bsM G2 10 = none := by
                              cases hq : bsM G2 10 with
                              | none => rfl
                              | some c => exact absurd ⟨c, hq⟩ (tF_eq h239)
                            rw [h239]
                            refine go_goto hC 154 dX3_map_272 (by decide) ?_
                            refine go_iload_n hC dX3_map_154 rfl ?_
                            refine go_if_eq hC 275 dX3_map_155 (by decide) (fun h155 => ?_) (fun h155 => ?_)
                            ·
                              refine go_mem ?_ (hE _ _ dX3_map_275)
                              rw [← hw, whM_n ho]
                            ·
                              exact absurd rfl h155
                          ·
                            obtain ⟨c, ho⟩ := tF_ne h239
                            have hc10 := bsM_lt ho
                            skip
                            rw [tF_t (P := ∃ c, bsM G2 10 = some c) ⟨c, ho⟩, ho]
                            show GO lyM X 0 0 242 [some (.ref (gm_ad X 0 0)), some (.int 1), some (.int (nI c)), none] [] G2
                            refine go_aload_n hC dX3_map_242 rfl ?_
                            refine go_getr (ci := 3) hC 24 kwX3_map_3 rfl rfl (by decide) rfl lkX3_map_68 (by first | decide | (show _ < 5; omega) | (show _ < 10; omega) | omega) dX3_map_243 ?_
                            refine go_iload_n hC dX3_map_246 rfl ?_
                            refine go_dup2 hC dX3_map_247 rfl rfl ?_
                            refine go_iald hC rfl (by first | decide | (show _ < 5; omega) | (show _ < 10; omega) | omega) (gm_in rfl (by omega) (by decide)) (gm_cl rfl (by omega)) dX3_map_248 ?_
                            refine go_iconst (v := 1) hC dX3_map_249 (by decide) ?_
                            refine go_iadd hC dX3_map_250 ?_
                            refine go_iast hC rfl (by first | decide | (show _ < 5; omega) | (show _ < 10; omega) | omega) (gm_in rfl (by omega) (by decide)) (gm_cl rfl (by omega)) dX3_map_251 ?_
                            refine go_aload_n hC dX3_map_252 rfl ?_
                            refine go_getr (ci := 3) hC 25 kwX3_map_3 rfl rfl (by decide) rfl lkX3_map_71 (by first | decide | (show _ < 5; omega) | (show _ < 10; omega) | omega) dX3_map_253 ?_
                            refine go_iload_n hC dX3_map_256 rfl ?_
                            refine go_dup2 hC dX3_map_257 rfl rfl ?_
                            refine go_iald hC rfl (by first | decide | (show _ < 5; omega) | (show _ < 10; omega) | omega) (gm_in rfl (by omega) (by decide)) (gm_cl rfl (by omega)) dX3_map_258 ?_
                            refine go_iconst (v := 1) hC dX3_map_259 (by decide) ?_
                            refine go_iadd hC dX3_map_260 ?_
                            refine go_iast hC rfl (by first | decide | (show _ < 5; omega) | (show _ < 10; omega) | omega) (gm_in rfl (by omega) (by decide)) (gm_cl rfl (by omega)) dX3_map_261 ?_
                            refine go_aload_n hC dX3_map_262 rfl ?_
                            refine go_dup hC dX3_map_263 rfl ?_
                            refine go_geti (ci := 3) hC 37 kwX3_map_3 rfl rfl (by decide) rfl lkX3_map_152 (by first | decide | (show _ < 5; omega) | (show _ < 10; omega) | omega) dX3_map_264 ?_
                            refine go_iconst (v := 1) hC dX3_map_267 (by decide) ?_
                            refine go_isub hC dX3_map_268 ?_
                            refine go_puti (ci := 3) hC 37 kwX3_map_3 rfl tyX3 tyX3_ok nmX3 rfl (by decide) rfl lkX3_map_152 (by first | decide | (show _ < 5; omega) | (show _ < 10; omega) | omega) rfl rfl rfl dX3_map_269 ?_
                            refine go_goto hC 154 dX3_map_272 (by decide) ?_
                            refine go_sub (go_mem ?_ (ihd (giM G2 c) (by omega) ?_ ?_)) ?_
                            · simp only [giM, gm_un1 (show (26 : Nat) ≠ 25 by decide), gm_un1 (show (0 : Nat) ≠ 25 by decide), gm_un1 (show (0 : Nat) ≠ 26 by decide)]
                            · rw [giM, gm_us, hd]
                              exact nI_pred d
                            · rw [← hw, whM_s ho]
                            repeat (first | exact gm_le_nil | refine gm_le_c ?_ | refine gm_le_n ?_)
                        ·
                          refine go_iload_n hC dX3_map_228 rfl ?_
                          refine go_if_lt hC 236 dX3_map_229 (by decide) (fun h229 => ?_) (fun h229 => ?_)
                          ·
                            refine go_iconst (v := 0) hC dX3_map_236 (by decide) ?_
                            refine go_cast ?_ rfl hj237
                            first | rw [tF_f (P := ∃ c, bsM G2 10 = some c) (fun ⟨c, q⟩ => by rw [oI_lt h229 (fun b hb => bsM_lt hb)] at q; cases q)] | rw [tF_t (P := ∃ c, bsM G2 10 = some c) (oI_ge h229)]
                          ·
                            refine go_iconst (v := 1) hC dX3_map_232 (by decide) ?_
                            refine go_goto hC 237 dX3_map_233 (by decide) ?_
                            refine go_cast ?_ rfl hj237
                            first | rw [tF_f (P := ∃ c, bsM G2 10 = some c) (fun ⟨c, q⟩ => by rw [oI_lt h229 (fun b hb => bsM_lt hb)] at q; cases q)] | rw [tF_t (P := ∃ c, bsM G2 10 = some c) (oI_ge h229)]
                      have lp169 : (fun i : Nat => GO lyM X 0 0 169 [some (.ref (gm_ad X 0 0)), some (.int 1), some (.int (oI (bsM G2 i))), some (.int (nI i))] [] G2) 0 := by
                        refine loopN (10) (fun i : Nat => GO lyM X 0 0 169 [some (.ref (gm_ad X 0 0)), some (.int 1), some (.int (oI (bsM G2 i))), some (.int (nI i))] [] G2) ?_ (fun i hi ihi => ?_)
                        · try dsimp only
                          refine go_iload_n hC dX3_map_169 rfl ?_
                          refine go_bipush (v := 10) hC dX3_map_170 (by decide) ?_
                          refine go_icmp_ge hC 228 dX3_map_172 (by decide) (fun h172 => ?_) (fun h172 => ?_)
                          ·
                            refine go_sub h228 ?_
                            repeat (first | exact gm_le_nil | refine gm_le_c ?_ | refine gm_le_n ?_)
                          ·
                            exact absurd (show nI 10 ≤ nI 10 from nI_le (Nat.le_refl _) (by decide)) h172
                        · try dsimp only at ihi ⊢
                          refine go_iload_n hC dX3_map_169 rfl ?_
                          refine go_bipush (v := 10) hC dX3_map_170 (by decide) ?_
                          refine go_icmp_ge hC 228 dX3_map_172 (by decide) (fun h172 => ?_) (fun h172 => ?_)
                          ·
                            exact absurd h172 (show ¬ nI 10 ≤ nI i from nI_ge hi (by decide))
                          ·
                            refine go_joinI (jpc := 221) (oI (bsM G2 (i + 1))) ?_ (fun hj221 => ?_)
                            ·
                              refine go_istore_n hC 2 dX3_map_221 rfl (Nat.le_of_ble_eq_true rfl) ?_
                              simp only [gm_s0, gm_s1]
                              refine go_iinc (v := 1) hC dX3_map_222 rfl (by decide) ?_
                              simp only [gm_s0, gm_s1]
                              refine go_goto hC 169 dX3_map_225 (by decide) ?_
                              rw [nI_1]
                              exact ihi
                            ·
                              refine go_aload_n hC dX3_map_175 rfl ?_
                              refine go_iload_n hC dX3_map_176 rfl ?_
                              refine go_callV (n := 1) (k0 := 0) (n0 := 0) hC hX (c_X3_wants _ i (by omega)) gX3_map_X3_wants rfl (by decide +kernel) ⟨rfl, rfl⟩ (by rw [hR]; exact ⟨by decide, by decide⟩) (by rw [hR]; exact ⟨by decide, by decide⟩) rfl rfl rfl (by first | decide | (show _ < 5; omega) | (show _ < 10; omega) | omega) rfl rfl rfl (Nat.le_of_ble_eq_true rfl) dX3_map_177 ?_
                              simp only [gm_r0, gm_r1]
                              refine go_if_eq hC 220 dX3_map_180 (by decide) (fun h180 => ?_) (fun h180 => ?_)
                              ·
                                refine go_iload_n hC dX3_map_220 rfl ?_
                                refine go_cast ?_ rfl hj221
                                first | (rw [bsM_A (tF_eq h180)]; done) | (rw [bsM_B (oI_lt h184 (fun b hb => by have := bsM_lt hb; omega)) (tF_ne h180)]; rfl) | (rw [bsM_D ho (fun q => q h213)]; done) | (rw [bsM_C ho (tF_ne h180) h213]; done)
                              ·
                                refine go_iload_n hC dX3_map_183 rfl ?_
                                refine go_if_lt hC 216 dX3_map_184 (by decide) (fun h184 => ?_) (fun h184 => ?_)
                                ·
                                  refine go_iload_n hC dX3_map_216 rfl ?_
                                  refine go_goto hC 221 dX3_map_217 (by decide) ?_
                                  refine go_cast ?_ rfl hj221
                                  first | (rw [bsM_A (tF_eq h180)]; done) | (rw [bsM_B (oI_lt h184 (fun b hb => by have := bsM_lt hb; omega)) (tF_ne h180)]; rfl) | (rw [bsM_D ho (fun q => q h213)]; done) | (rw [bsM_C ho (tF_ne h180) h213]; done)
                                ·
                                  obtain ⟨b, ho⟩ := oI_ge h184
                                  have hb10 := bsM_lt ho
                                  rw [ho] at hj221 ⊢
                                  simp only [oI] at hj221 ⊢
                                  refine go_aload_n hC dX3_map_187 rfl ?_
                                  refine go_getr (ci := 3) hC 25 kwX3_map_3 rfl rfl (by decide) rfl lkX3_map_71 (by first | decide | (show _ < 5; omega) | (show _ < 10; omega) | omega) dX3_map_188 ?_
                                  refine go_iload_n hC dX3_map_191 rfl ?_
                                  refine go_iald hC rfl (by first | decide | (show _ < 5; omega) | (show _ < 10; omega) | omega) (gm_in rfl (by omega) (by decide)) (gm_cl rfl (by omega)) dX3_map_192 ?_
                                  refine go_aload_n hC dX3_map_193 rfl ?_
                                  refine go_getr (ci := 3) hC 22 kwX3_map_3 rfl rfl (by decide) rfl lkX3_map_62 (by first | decide | (show _ < 5; omega) | (show _ < 10; omega) | omega) dX3_map_194 ?_
                                  refine go_iload_n hC dX3_map_197 rfl ?_
                                  refine go_iald hC rfl (by first | decide | (show _ < 5; omega) | (show _ < 10; omega) | omega) (gm_in rfl (by omega) (by decide)) (gm_cl rfl (by omega)) dX3_map_198 ?_
                                  refine go_imul hC dX3_map_199 ?_
                                  refine go_aload_n hC dX3_map_200 rfl ?_
                                  refine go_getr (ci := 3) hC 25 kwX3_map_3 rfl rfl (by decide) rfl lkX3_map_71 (by first | decide | (show _ < 5; omega) | (show _ < 10; omega) | omega) dX3_map_201 ?_
                                  refine go_iload_n hC dX3_map_204 rfl ?_
                                  refine go_iald hC rfl (by first | decide | (show _ < 5; omega) | (show _ < 10; omega) | omega) (gm_in rfl (by omega) (by decide)) (gm_cl rfl (by omega)) dX3_map_205 ?_
                                  refine go_aload_n hC dX3_map_206 rfl ?_
                                  refine go_getr (ci := 3) hC 22 kwX3_map_3 rfl rfl (by decide) rfl lkX3_map_62 (by first | decide | (show _ < 5; omega) | (show _ < 10; omega) | omega) dX3_map_207 ?_
                                  refine go_iload_n hC dX3_map_210 rfl ?_
                                  refine go_iald hC rfl (by first | decide | (show _ < 5; omega) | (show _ < 10; omega) | omega) (gm_in rfl (by omega) (by decide)) (gm_cl rfl (by omega)) dX3_map_211 ?_
                                  refine go_imul hC dX3_map_212 ?_
                                  refine go_icmp_ge hC 220 dX3_map_213 (by decide) (fun h213 => ?_) (fun h213 => ?_)
                                  ·
                                    refine go_iload_n hC dX3_map_220 rfl ?_
                                    refine go_cast ?_ rfl hj221
                                    first | (rw [bsM_A (tF_eq h180)]; done) | (rw [bsM_B (oI_lt h184 (fun b hb => by have := bsM_lt hb; omega)) (tF_ne h180)]; rfl) | (rw [bsM_D ho (fun q => q h213)]; done) | (rw [bsM_C ho (tF_ne h180) h213]; done)
                                  ·
                                    refine go_iload_n hC dX3_map_216 rfl ?_
                                    refine go_goto hC 221 dX3_map_217 (by decide) ?_
                                    refine go_cast ?_ rfl hj221
                                    first | (rw [bsM_A (tF_eq h180)]; done) | (rw [bsM_B (oI_lt h184 (fun b hb => by have := bsM_lt hb; omega)) (tF_ne h180)]; rfl) | (rw [bsM_D ho (fun q => q h213)]; done) | (rw [bsM_C ho (tF_ne h180) h213]; done)
                      try dsimp only at lp169
                      exact lp169
              exact go_sub (key b (mpA G) hb31 hb rfl) (by
                repeat (first | exact gm_le_nil | refine gm_le_c ?_ | refine gm_le_n ?_))
            ·
              exact absurd (show nI 10 ≤ nI 10 from nI_le (Nat.le_refl _) (by decide)) h48
          · try dsimp only at ih ⊢
            refine go_iload_n hC dX3_map_45 rfl ?_
            refine go_bipush (v := 10) hC dX3_map_46 (by decide) ?_
            refine go_icmp_ge hC 152 dX3_map_48 (by decide) (fun h48 => ?_) (fun h48 => ?_)
            ·
              exact absurd h48 (show ¬ nI 10 ≤ nI j from nI_ge hj (by decide))
            ·
              refine go_aload_n hC dX3_map_51 rfl ?_
              refine go_getr (ci := 3) hC 23 kwX3_map_3 rfl rfl (by decide) rfl lkX3_map_65 (by first | decide | (show _ < 5; omega) | (show _ < 10; omega) | omega) dX3_map_52 ?_
              refine go_iload_n hC dX3_map_55 rfl ?_
              refine go_iald hC rfl (by first | decide | (show _ < 5; omega) | (show _ < 10; omega) | omega) (gm_in rfl (by omega) (by decide)) (gm_cl rfl (by omega)) dX3_map_56 ?_
              refine go_aload_n hC dX3_map_57 rfl ?_
              refine go_getr (ci := 3) hC 19 kwX3_map_3 rfl rfl (by decide) rfl lkX3_map_53 (by first | decide | (show _ < 5; omega) | (show _ < 10; omega) | omega) dX3_map_58 ?_
              refine go_iload_n hC dX3_map_61 rfl ?_
              refine go_iald hC rfl (by first | decide | (show _ < 5; omega) | (show _ < 10; omega) | omega) (gm_in rfl (by omega) (by decide)) (gm_cl rfl (by omega)) dX3_map_62 ?_
              refine go_isub hC dX3_map_63 ?_
              refine go_istore_n hC 2 dX3_map_64 rfl (Nat.le_of_ble_eq_true rfl) ?_
              simp only [gm_s0, gm_s1]
              refine go_joinI (jpc := 93) (suM ((iter mp2 j (iter mp1 5 (gm_up G 0 37 0 60))) 24 j 0 - (iter mp2 j (iter mp1 5 (gm_up G 0 37 0 60))) 20 j 0) ((iter mp2 j (iter mp1 5 (gm_up G 0 37 0 60))) 21 j 0)) ?_ (fun hj93 => ?_)
              ·
                refine go_istore_n hC 3 dX3_map_93 rfl (Nat.le_of_ble_eq_true rfl) ?_
                simp only [gm_s0, gm_s1]
                refine go_aload_n hC dX3_map_94 rfl ?_
                refine go_getr (ci := 3) hC 24 kwX3_map_3 rfl rfl (by decide) rfl lkX3_map_68 (by first | decide | (show _ < 5; omega) | (show _ < 10; omega) | omega) dX3_map_95 ?_
                refine go_iload_n hC dX3_map_98 rfl ?_
                refine go_joinI (jpc := 123) (gvM (iter mp2 j (iter mp1 5 (gm_up G 0 37 0 60))) j) ?_ (fun hj123 => ?_)
                ·
                  refine go_iast hC rfl (by first | decide | (show _ < 5; omega) | (show _ < 10; omega) | omega) (gm_in rfl (by omega) (by decide)) (gm_cl rfl (by omega)) dX3_map_123 ?_
                  refine go_aload_n hC dX3_map_124 rfl ?_
                  refine go_getr (ci := 3) hC 25 kwX3_map_3 rfl rfl (by decide) rfl lkX3_map_71 (by first | decide | (show _ < 5; omega) | (show _ < 10; omega) | omega) dX3_map_125 ?_
                  refine go_iload_n hC dX3_map_128 rfl ?_
                  refine go_iconst (v := 0) hC dX3_map_129 (by decide) ?_
                  refine go_iast hC rfl (by first | decide | (show _ < 5; omega) | (show _ < 10; omega) | omega) (gm_in rfl (by omega) (by decide)) (gm_cl rfl (by omega)) dX3_map_130 ?_
                  refine go_aload_n hC dX3_map_131 rfl ?_
                  refine go_dup hC dX3_map_132 rfl ?_
                  refine go_geti (ci := 3) hC 37 kwX3_map_3 rfl rfl (by decide) rfl lkX3_map_152 (by first | decide | (show _ < 5; omega) | (show _ < 10; omega) | omega) dX3_map_133 ?_
                  refine go_aload_n hC dX3_map_136 rfl ?_
                  refine go_getr (ci := 3) hC 24 kwX3_map_3 rfl rfl (by decide) rfl lkX3_map_68 (by first | decide | (show _ < 5; omega) | (show _ < 10; omega) | omega) dX3_map_137 ?_
                  refine go_iload_n hC dX3_map_140 rfl ?_
                  refine go_iald hC rfl (by first | decide | (show _ < 5; omega) | (show _ < 10; omega) | omega) (gm_in rfl (by omega) (by decide)) (gm_cl rfl (by omega)) dX3_map_141 ?_
                  refine go_isub hC dX3_map_142 ?_
                  refine go_puti (ci := 3) hC 37 kwX3_map_3 rfl tyX3 tyX3_ok nmX3 rfl (by decide) rfl lkX3_map_152 (by first | decide | (show _ < 5; omega) | (show _ < 10; omega) | omega) rfl rfl rfl dX3_map_143 ?_
                  refine go_iinc (v := 1) hC dX3_map_146 rfl (by decide) ?_
                  simp only [gm_s0, gm_s1]
                  refine go_goto hC 45 dX3_map_149 (by decide) ?_
                  rw [nI_1]
                  refine go_sub (go_mem ?_ ih) ?_
                  · rw [iter_s mp2 j]
                    simp only [mp2, gm_us, gm_un1 (show (0 : Nat) ≠ 25 by decide), gm_un1 (show (0 : Nat) ≠ 26 by decide), gm_un1 (show (25 : Nat) ≠ 26 by decide)]
                  repeat (first | exact gm_le_nil | refine gm_le_c ?_ | refine gm_le_n ?_)
                ·
                  refine go_aload_n hC dX3_map_99 rfl ?_
                  refine go_getr (ci := 3) hC 1 kwX3_map_3 rfl rfl (by decide) rfl lkX3_map_7 (by first | decide | (show _ < 5; omega) | (show _ < 10; omega) | omega) dX3_map_100 ?_
                  refine go_iload_n hC dX3_map_103 rfl ?_
                  refine go_iconst (v := 2) hC dX3_map_104 (by decide) ?_
                  refine go_idiv hC dX3_map_105 (by decide) ?_
                  refine go_iald hC rfl (by first | decide | (show _ < 5; omega) | (show _ < 10; omega) | omega) (gm_in (half j (by omega)) (by omega) (by decide)) (gm_cl (half j (by omega)) (by omega)) dX3_map_106 ?_
                  refine go_iconst (v := 2) hC dX3_map_107 (by decide) ?_
                  refine go_icmp_ne hC 122 dX3_map_108 (by decide) (fun h108 => ?_) (fun h108 => ?_)
                  ·
                    refine go_iconst (v := 0) hC dX3_map_122 (by decide) ?_
                    refine go_cast ?_ rfl hj123
                    first | (rw [show gvM (iter mp2 j (iter mp1 5 (gm_up G 0 37 0 60))) j = _ from if_neg h108]; done) | (rw [show gvM (iter mp2 j (iter mp1 5 (gm_up G 0 37 0 60))) j = _ from if_pos h108]; done)
                  ·
                    refine go_aload_n hC dX3_map_111 rfl ?_
                    refine go_getr (ci := 3) hC 19 kwX3_map_3 rfl rfl (by decide) rfl lkX3_map_53 (by first | decide | (show _ < 5; omega) | (show _ < 10; omega) | omega) dX3_map_112 ?_
                    refine go_iload_n hC dX3_map_115 rfl ?_
                    refine go_iald hC rfl (by first | decide | (show _ < 5; omega) | (show _ < 10; omega) | omega) (gm_in rfl (by omega) (by decide)) (gm_cl rfl (by omega)) dX3_map_116 ?_
                    refine go_iload_n hC dX3_map_117 rfl ?_
                    refine go_iadd hC dX3_map_118 ?_
                    refine go_goto hC 123 dX3_map_119 (by decide) ?_
                    refine go_cast ?_ rfl hj123
                    first | (rw [show gvM (iter mp2 j (iter mp1 5 (gm_up G 0 37 0 60))) j = _ from if_neg h108]; done) | (rw [show gvM (iter mp2 j (iter mp1 5 (gm_up G 0 37 0 60))) j = _ from if_pos h108]; done)
              ·
                refine go_iload_n hC dX3_map_65 rfl ?_
                refine go_if_ge hC 73 dX3_map_66 (by decide) (fun h66 => ?_) (fun h66 => ?_)
                ·
                  refine go_iload_n hC dX3_map_73 rfl ?_
                  refine go_aload_n hC dX3_map_74 rfl ?_
                  refine go_getr (ci := 3) hC 20 kwX3_map_3 rfl rfl (by decide) rfl lkX3_map_56 (by first | decide | (show _ < 5; omega) | (show _ < 10; omega) | omega) dX3_map_75 ?_
                  refine go_iload_n hC dX3_map_78 rfl ?_
                  refine go_iald hC rfl (by first | decide | (show _ < 5; omega) | (show _ < 10; omega) | omega) (gm_in rfl (by omega) (by decide)) (gm_cl rfl (by omega)) dX3_map_79 ?_
                  refine go_icmp_ge hC 87 dX3_map_80 (by decide) (fun h80 => ?_) (fun h80 => ?_)
                  ·
                    refine go_aload_n hC dX3_map_87 rfl ?_
                    refine go_getr (ci := 3) hC 20 kwX3_map_3 rfl rfl (by decide) rfl lkX3_map_56 (by first | decide | (show _ < 5; omega) | (show _ < 10; omega) | omega) dX3_map_88 ?_
                    refine go_iload_n hC dX3_map_91 rfl ?_
                    refine go_iald hC rfl (by first | decide | (show _ < 5; omega) | (show _ < 10; omega) | omega) (gm_in rfl (by omega) (by decide)) (gm_cl rfl (by omega)) dX3_map_92 ?_
                    refine go_cast ?_ rfl hj93
                    first | (rw [suM, if_pos h66, if_pos h80]; done) | (rw [suM, if_pos h66, if_neg h80]; done) | (rw [suM, if_neg h66]; done)
                  ·
                    refine go_iload_n hC dX3_map_83 rfl ?_
                    refine go_goto hC 93 dX3_map_84 (by decide) ?_
                    refine go_cast ?_ rfl hj93
                    first | (rw [suM, if_pos h66, if_pos h80]; done) | (rw [suM, if_pos h66, if_neg h80]; done) | (rw [suM, if_neg h66]; done)
                ·
                  refine go_iconst (v := 0) hC dX3_map_69 (by decide) ?_
                  refine go_goto hC 93 dX3_map_70 (by decide) ?_
                  refine go_cast ?_ rfl hj93
                  first | (rw [suM, if_pos h66, if_pos h80]; done) | (rw [suM, if_pos h66, if_neg h80]; done) | (rw [suM, if_neg h66]; done)
        try dsimp only at lp45
        refine go_sub lp45 ?_
        repeat (first | exact gm_le_nil | refine gm_le_c ?_ | refine gm_le_n ?_)
      ·
        exact absurd (show nI 5 ≤ nI 5 from nI_le (Nat.le_refl _) (by decide)) h10
    · try dsimp only at ih ⊢
      refine go_iload_n hC dX3_map_8 rfl ?_
      refine go_iconst (v := 5) hC dX3_map_9 (by decide) ?_
      refine go_icmp_ge hC 43 dX3_map_10 (by decide) (fun h10 => ?_) (fun h10 => ?_)
      ·
        exact absurd h10 (show ¬ nI 5 ≤ nI j from nI_ge hj (by decide))
      ·
        refine go_aload_n hC dX3_map_13 rfl ?_
        refine go_dup hC dX3_map_14 rfl ?_
        refine go_geti (ci := 3) hC 37 kwX3_map_3 rfl rfl (by decide) rfl lkX3_map_152 (by first | decide | (show _ < 5; omega) | (show _ < 10; omega) | omega) dX3_map_15 ?_
        refine go_joinI (jpc := 33) (if iter mp1 j (gm_up G 0 37 0 60) 2 j 0 = 2 then 1 else 0) ?_ (fun hj33 => ?_)
        ·
          refine go_isub hC dX3_map_33 ?_
          refine go_puti (ci := 3) hC 37 kwX3_map_3 rfl tyX3 tyX3_ok nmX3 rfl (by decide) rfl lkX3_map_152 (by first | decide | (show _ < 5; omega) | (show _ < 10; omega) | omega) rfl rfl rfl dX3_map_34 ?_
          refine go_iinc (v := 1) hC dX3_map_37 rfl (by decide) ?_
          simp only [gm_s0, gm_s1]
          refine go_goto hC 8 dX3_map_40 (by decide) ?_
          rw [nI_1]
          exact ih
        ·
          refine go_aload_n hC dX3_map_18 rfl ?_
          refine go_getr (ci := 3) hC 1 kwX3_map_3 rfl rfl (by decide) rfl lkX3_map_7 (by first | decide | (show _ < 5; omega) | (show _ < 10; omega) | omega) dX3_map_19 ?_
          refine go_iload_n hC dX3_map_22 rfl ?_
          refine go_iald hC rfl (by first | decide | (show _ < 5; omega) | (show _ < 10; omega) | omega) (gm_in rfl (by omega) (by decide)) (gm_cl rfl (by omega)) dX3_map_23 ?_
          refine go_iconst (v := 2) hC dX3_map_24 (by decide) ?_
          refine go_icmp_ne hC 32 dX3_map_25 (by decide) (fun h25 => ?_) (fun h25 => ?_)
          ·
            refine go_iconst (v := 0) hC dX3_map_32 (by decide) ?_
            refine go_cast ?_ rfl hj33
            first | rw [if_neg h25] | rw [if_pos h25]
          ·
            refine go_iconst (v := 1) hC dX3_map_28 (by decide) ?_
            refine go_goto hC 33 dX3_map_29 (by decide) ?_
            refine go_cast ?_ rfl hj33
            first | rw [if_neg h25] | rw [if_pos h25]
  try dsimp only at lp8
  exact lp8
def buS (G : gm_M) (u : Nat) : Int32 := 16 + 16 * (G 25 (2 * u) 0 + G 25 (2 * u + 1) 0)
def buP (G : gm_M) : Nat → gm_M × Int32
  | 0 => (G, 0)
  | j + 1 => if (buP G j).1 2 j 0 = 2 then (gm_up (gm_up (buP G j).1 40 j 0 ((buP G j).2 + erM (buP G j).1 j)) 41 j 0 (buS (buP G j).1 j), (buP G j).2 + (buS (buP G j).1 j + 32)) else buP G j
abbrev bmP (G : gm_M) (u k : Nat) : Prop := (G 2 u 0 = 2 ∧ G 2 k 0 = 2) ∧ ¬ G 40 k 0 + G 41 k 0 ≤ G 40 u 0 ∧ ¬ G 40 u 0 + G 41 u 0 ≤ G 40 k 0
noncomputable def bm1 (u : Nat) : Nat → gm_M → gm_M := fun k G => gm_up G 0 36 0 (G 0 36 0 + tF (bmP G u k))
noncomputable def bm2 : Nat → gm_M → gm_M := fun u G => iter (bm1 u) u G
theorem kwX3_bursts_3 : ∀ w ∈ wsX30, w ∈ wsX3_bursts := by decide +kernel
theorem lkX3_bursts_7 : Cond.fieldLink RX3 7 "SharedFibreModel" "state" "[I" ∈ wsX3_bursts := by decide +kernel
theorem lkX3_bursts_68 : Cond.fieldLink RX3 68 "SharedFibreModel" "given" "[I" ∈ wsX3_bursts := by decide +kernel
theorem lkX3_bursts_95 : Cond.fieldLink RX3 95 "SharedFibreModel" "start" "[I" ∈ wsX3_bursts := by decide +kernel
theorem lkX3_bursts_98 : Cond.fieldLink RX3 98 "SharedFibreModel" "span" "[I" ∈ wsX3_bursts := by decide +kernel
theorem lkX3_bursts_158 : Cond.fieldLink RX3 158 "SharedFibreModel" "met" "I" ∈ wsX3_bursts := by decide +kernel
set_option maxHeartbeats 4000000 in
set_option maxRecDepth 100000 in
/-- the reference: X3_bursts -/
theorem c_X3_bursts (G : gm_M) : KC lyM yX3_bursts wsX3_bursts ({ frames := 2, cells := 0, slots := 0, locals := 42 }) (fun ad => [.ref (ad 0 0)]) G (fun _ => none) (iter bm2 5 (buP G 5).1) := by
  refine KC.of_v (by decide) rfl rfl (fun _ => by simp) (fun _ => by simp [Value.category])  ?_
  intro X hC hR hX hE
  simp only [List.map_cons, List.map_nil, List.cons_append, List.nil_append, List.length_cons, List.length_nil, List.replicate, Nat.reduceAdd, Nat.reduceSub]
  refine go_iconst (v := 0) hC dX3_bursts_0 (by decide) ?_
  refine go_istore_n hC 1 dX3_bursts_1 rfl (Nat.le_of_ble_eq_true rfl) ?_
  simp only [gm_s0, gm_s1]
  refine go_iconst (v := 0) hC dX3_bursts_2 (by decide) ?_
  refine go_istore_n hC 2 dX3_bursts_3 rfl (Nat.le_of_ble_eq_true rfl) ?_
  simp only [gm_s0, gm_s1]
  have lp4 : (fun j : Nat => GO lyM X 0 0 4 [some (.ref (gm_ad X 0 0)), some (.int (buP G j).2), some (.int (nI j)), none, none] [] (buP G j).1) 0 := by
    refine loopN (5) (fun j : Nat => GO lyM X 0 0 4 [some (.ref (gm_ad X 0 0)), some (.int (buP G j).2), some (.int (nI j)), none, none] [] (buP G j).1) ?_ (fun j hj ih => ?_)
    · try dsimp only
      refine go_iload_n hC dX3_bursts_4 rfl ?_
      refine go_iconst (v := 5) hC dX3_bursts_5 (by decide) ?_
      refine go_icmp_ge hC 81 dX3_bursts_6 (by decide) (fun h6 => ?_) (fun h6 => ?_)
      ·
        refine go_iconst (v := 0) hC dX3_bursts_81 (by decide) ?_
        refine go_istore_n hC 2 dX3_bursts_82 rfl (Nat.le_of_ble_eq_true rfl) ?_
        simp only [gm_s0, gm_s1]
        have lp83 : (fun j : Nat => GO lyM X 0 0 83 [some (.ref (gm_ad X 0 0)), none, some (.int (nI j)), none, none] [] (iter bm2 j (buP G 5).1)) 0 := by
          refine loopN (5) (fun j : Nat => GO lyM X 0 0 83 [some (.ref (gm_ad X 0 0)), none, some (.int (nI j)), none, none] [] (iter bm2 j (buP G 5).1)) ?_ (fun j hj ih => ?_)
          · try dsimp only
            refine go_iload_n hC dX3_bursts_83 rfl ?_
            refine go_iconst (v := 5) hC dX3_bursts_84 (by decide) ?_
            refine go_icmp_ge hC 197 dX3_bursts_85 (by decide) (fun h85 => ?_) (fun h85 => ?_)
            ·
              refine go_cast ?_ ?_ (hE _ _ dX3_bursts_197)
              · first | rfl | (simp [*]; done) | (simp [*, gm_us, gm_un1, gm_un2]; done)
              · first | rfl | (simp [*]; done) | (simp [*, gm_us, gm_un1, gm_un2]; done)
            ·
              exact absurd (show nI 5 ≤ nI 5 from nI_le (Nat.le_refl _) (by decide)) h85
          · try dsimp only at ih ⊢
            refine go_iload_n hC dX3_bursts_83 rfl ?_
            refine go_iconst (v := 5) hC dX3_bursts_84 (by decide) ?_
            refine go_icmp_ge hC 197 dX3_bursts_85 (by decide) (fun h85 => ?_) (fun h85 => ?_)
            ·
              exact absurd h85 (show ¬ nI 5 ≤ nI j from nI_ge hj (by decide))
            ·
              refine go_iconst (v := 0) hC dX3_bursts_88 (by decide) ?_
              refine go_istore_n hC 3 dX3_bursts_89 rfl (Nat.le_of_ble_eq_true rfl) ?_
              simp only [gm_s0, gm_s1]
              have lp90 : (fun i : Nat => GO lyM X 0 0 90 [some (.ref (gm_ad X 0 0)), none, some (.int (nI j)), some (.int (nI i)), none] [] (iter (bm1 j) i (iter bm2 j (buP G 5).1))) 0 := by
                refine loopN (j) (fun i : Nat => GO lyM X 0 0 90 [some (.ref (gm_ad X 0 0)), none, some (.int (nI j)), some (.int (nI i)), none] [] (iter (bm1 j) i (iter bm2 j (buP G 5).1))) ?_ (fun i hi ihi => ?_)
                · try dsimp only
                  refine go_iload_n hC dX3_bursts_90 rfl ?_
                  refine go_iload_n hC dX3_bursts_91 rfl ?_
                  refine go_icmp_ge hC 191 dX3_bursts_92 (by decide) (fun h92 => ?_) (fun h92 => ?_)
                  ·
                    refine go_iinc (v := 1) hC dX3_bursts_191 rfl (by decide) ?_
                    simp only [gm_s0, gm_s1]
                    refine go_goto hC 83 dX3_bursts_194 (by decide) ?_
                    rw [nI_1]
                    refine go_sub ih ?_
                    repeat (first | exact gm_le_nil | refine gm_le_c ?_ | refine gm_le_n ?_)
                  ·
                    exact absurd (nI_le (Nat.le_refl _) (by omega)) h92
                · try dsimp only at ihi ⊢
                  refine go_iload_n hC dX3_bursts_90 rfl ?_
                  refine go_iload_n hC dX3_bursts_91 rfl ?_
                  refine go_icmp_ge hC 191 dX3_bursts_92 (by decide) (fun h92 => ?_) (fun h92 => ?_)
                  ·
                    exact absurd h92 (nI_ge hi (by omega))
                  ·
                    refine go_joinI (jpc := 120) (tF ((iter (bm1 j) i (iter bm2 j (buP G 5).1)) 2 j 0 = 2 ∧ (iter (bm1 j) i (iter bm2 j (buP G 5).1)) 2 i 0 = 2)) ?_ (fun hj120 => ?_)
                    ·
                      refine go_istore hC dX3_bursts_120 (Nat.le_of_ble_eq_true rfl) ?_
                      simp only [gm_s0, gm_s1]
                      refine go_aload_n hC dX3_bursts_122 rfl ?_
                      refine go_dup hC dX3_bursts_123 rfl ?_
                      refine go_geti (ci := 3) hC 36 kwX3_bursts_3 rfl rfl (by decide) rfl lkX3_bursts_158 (by first | decide | (show _ < 5; omega) | (show _ < 10; omega) | omega) dX3_bursts_124 ?_
                      refine go_joinI (jpc := 181) (tF (bmP (iter (bm1 j) i (iter bm2 j (buP G 5).1)) j i)) ?_ (fun hj181 => ?_)
                      ·
                        refine go_iadd hC dX3_bursts_181 ?_
                        refine go_puti (ci := 3) hC 36 kwX3_bursts_3 rfl tyX3 tyX3_ok nmX3 rfl (by decide) rfl lkX3_bursts_158 (by first | decide | (show _ < 5; omega) | (show _ < 10; omega) | omega) rfl rfl rfl dX3_bursts_182 ?_
                        refine go_iinc (v := 1) hC dX3_bursts_185 rfl (by decide) ?_
                        simp only [gm_s0, gm_s1]
                        refine go_goto hC 90 dX3_bursts_188 (by decide) ?_
                        rw [nI_1]
                        refine go_sub ihi ?_
                        repeat (first | exact gm_le_nil | refine gm_le_c ?_ | refine gm_le_n ?_)
                      ·
                        refine go_iload hC dX3_bursts_127 rfl ?_
                        refine go_if_eq hC 180 dX3_bursts_129 (by decide) (fun h129 => ?_) (fun h129 => ?_)
                        ·
                          refine go_iconst (v := 0) hC dX3_bursts_180 (by decide) ?_
                          refine go_cast ?_ rfl hj181
                          first | rw [tF_f (P := bmP (iter (bm1 j) i (iter bm2 j (buP G 5).1)) j i) (fun q => tF_eq h129 q.1)] | rw [tF_f (P := bmP (iter (bm1 j) i (iter bm2 j (buP G 5).1)) j i) (fun q => q.2.1 h151)] | rw [tF_f (P := bmP (iter (bm1 j) i (iter bm2 j (buP G 5).1)) j i) (fun q => q.2.2 h173)] | rw [tF_t (P := bmP (iter (bm1 j) i (iter bm2 j (buP G 5).1)) j i) ⟨tF_ne h129, h151, h173⟩]
                        ·
                          refine go_aload_n hC dX3_bursts_132 rfl ?_
                          refine go_getr (ci := 3) hC 39 kwX3_bursts_3 rfl rfl (by decide) rfl lkX3_bursts_95 (by first | decide | (show _ < 5; omega) | (show _ < 10; omega) | omega) dX3_bursts_133 ?_
                          refine go_iload_n hC dX3_bursts_136 rfl ?_
                          refine go_iald hC rfl (by first | decide | (show _ < 5; omega) | (show _ < 10; omega) | omega) (gm_in rfl (by omega) (by decide)) (gm_cl rfl (by omega)) dX3_bursts_137 ?_
                          refine go_aload_n hC dX3_bursts_138 rfl ?_
                          refine go_getr (ci := 3) hC 39 kwX3_bursts_3 rfl rfl (by decide) rfl lkX3_bursts_95 (by first | decide | (show _ < 5; omega) | (show _ < 10; omega) | omega) dX3_bursts_139 ?_
                          refine go_iload_n hC dX3_bursts_142 rfl ?_
                          refine go_iald hC rfl (by first | decide | (show _ < 5; omega) | (show _ < 10; omega) | omega) (gm_in rfl (by omega) (by decide)) (gm_cl rfl (by omega)) dX3_bursts_143 ?_
                          refine go_aload_n hC dX3_bursts_144 rfl ?_
                          refine go_getr (ci := 3) hC 40 kwX3_bursts_3 rfl rfl (by decide) rfl lkX3_bursts_98 (by first | decide | (show _ < 5; omega) | (show _ < 10; omega) | omega) dX3_bursts_145 ?_
                          refine go_iload_n hC dX3_bursts_148 rfl ?_
                          refine go_iald hC rfl (by first | decide | (show _ < 5; omega) | (show _ < 10; omega) | omega) (gm_in rfl (by omega) (by decide)) (gm_cl rfl (by omega)) dX3_bursts_149 ?_
                          refine go_iadd hC dX3_bursts_150 ?_
                          refine go_icmp_ge hC 180 dX3_bursts_151 (by decide) (fun h151 => ?_) (fun h151 => ?_)
                          ·
                            refine go_iconst (v := 0) hC dX3_bursts_180 (by decide) ?_
                            refine go_cast ?_ rfl hj181
                            first | rw [tF_f (P := bmP (iter (bm1 j) i (iter bm2 j (buP G 5).1)) j i) (fun q => tF_eq h129 q.1)] | rw [tF_f (P := bmP (iter (bm1 j) i (iter bm2 j (buP G 5).1)) j i) (fun q => q.2.1 h151)] | rw [tF_f (P := bmP (iter (bm1 j) i (iter bm2 j (buP G 5).1)) j i) (fun q => q.2.2 h173)] | rw [tF_t (P := bmP (iter (bm1 j) i (iter bm2 j (buP G 5).1)) j i) ⟨tF_ne h129, h151, h173⟩]
                          ·
                            refine go_aload_n hC dX3_bursts_154 rfl ?_
                            refine go_getr (ci := 3) hC 39 kwX3_bursts_3 rfl rfl (by decide) rfl lkX3_bursts_95 (by first | decide | (show _ < 5; omega) | (show _ < 10; omega) | omega) dX3_bursts_155 ?_
                            refine go_iload_n hC dX3_bursts_158 rfl ?_
                            refine go_iald hC rfl (by first | decide | (show _ < 5; omega) | (show _ < 10; omega) | omega) (gm_in rfl (by omega) (by decide)) (gm_cl rfl (by omega)) dX3_bursts_159 ?_
                            refine go_aload_n hC dX3_bursts_160 rfl ?_
                            refine go_getr (ci := 3) hC 39 kwX3_bursts_3 rfl rfl (by decide) rfl lkX3_bursts_95 (by first | decide | (show _ < 5; omega) | (show _ < 10; omega) | omega) dX3_bursts_161 ?_
                            refine go_iload_n hC dX3_bursts_164 rfl ?_
                            refine go_iald hC rfl (by first | decide | (show _ < 5; omega) | (show _ < 10; omega) | omega) (gm_in rfl (by omega) (by decide)) (gm_cl rfl (by omega)) dX3_bursts_165 ?_
                            refine go_aload_n hC dX3_bursts_166 rfl ?_
                            refine go_getr (ci := 3) hC 40 kwX3_bursts_3 rfl rfl (by decide) rfl lkX3_bursts_98 (by first | decide | (show _ < 5; omega) | (show _ < 10; omega) | omega) dX3_bursts_167 ?_
                            refine go_iload_n hC dX3_bursts_170 rfl ?_
                            refine go_iald hC rfl (by first | decide | (show _ < 5; omega) | (show _ < 10; omega) | omega) (gm_in rfl (by omega) (by decide)) (gm_cl rfl (by omega)) dX3_bursts_171 ?_
                            refine go_iadd hC dX3_bursts_172 ?_
                            refine go_icmp_ge hC 180 dX3_bursts_173 (by decide) (fun h173 => ?_) (fun h173 => ?_)
                            ·
                              refine go_iconst (v := 0) hC dX3_bursts_180 (by decide) ?_
                              refine go_cast ?_ rfl hj181
                              first | rw [tF_f (P := bmP (iter (bm1 j) i (iter bm2 j (buP G 5).1)) j i) (fun q => tF_eq h129 q.1)] | rw [tF_f (P := bmP (iter (bm1 j) i (iter bm2 j (buP G 5).1)) j i) (fun q => q.2.1 h151)] | rw [tF_f (P := bmP (iter (bm1 j) i (iter bm2 j (buP G 5).1)) j i) (fun q => q.2.2 h173)] | rw [tF_t (P := bmP (iter (bm1 j) i (iter bm2 j (buP G 5).1)) j i) ⟨tF_ne h129, h151, h173⟩]
                            ·
                              refine go_iconst (v := 1) hC dX3_bursts_176 (by decide) ?_
                              refine go_goto hC 181 dX3_bursts_177 (by decide) ?_
                              refine go_cast ?_ rfl hj181
                              first | rw [tF_f (P := bmP (iter (bm1 j) i (iter bm2 j (buP G 5).1)) j i) (fun q => tF_eq h129 q.1)] | rw [tF_f (P := bmP (iter (bm1 j) i (iter bm2 j (buP G 5).1)) j i) (fun q => q.2.1 h151)] | rw [tF_f (P := bmP (iter (bm1 j) i (iter bm2 j (buP G 5).1)) j i) (fun q => q.2.2 h173)] | rw [tF_t (P := bmP (iter (bm1 j) i (iter bm2 j (buP G 5).1)) j i) ⟨tF_ne h129, h151, h173⟩]
                    ·
                      refine go_aload_n hC dX3_bursts_95 rfl ?_
                      refine go_getr (ci := 3) hC 1 kwX3_bursts_3 rfl rfl (by decide) rfl lkX3_bursts_7 (by first | decide | (show _ < 5; omega) | (show _ < 10; omega) | omega) dX3_bursts_96 ?_
                      refine go_iload_n hC dX3_bursts_99 rfl ?_
                      refine go_iald hC rfl (by first | decide | (show _ < 5; omega) | (show _ < 10; omega) | omega) (gm_in rfl (by omega) (by decide)) (gm_cl rfl (by omega)) dX3_bursts_100 ?_
                      refine go_iconst (v := 2) hC dX3_bursts_101 (by decide) ?_
                      refine go_icmp_ne hC 119 dX3_bursts_102 (by decide) (fun h102 => ?_) (fun h102 => ?_)
                      ·
                        refine go_iconst (v := 0) hC dX3_bursts_119 (by decide) ?_
                        refine go_cast ?_ rfl hj120
                        first | rw [tF_f (fun q => h102 q.1)] | rw [tF_f (fun q => h112 q.2)] | rw [tF_t (P := (iter (bm1 j) i (iter bm2 j (buP G 5).1)) 2 j 0 = 2 ∧ (iter (bm1 j) i (iter bm2 j (buP G 5).1)) 2 i 0 = 2) ⟨h102, h112⟩]
                      ·
                        refine go_aload_n hC dX3_bursts_105 rfl ?_
                        refine go_getr (ci := 3) hC 1 kwX3_bursts_3 rfl rfl (by decide) rfl lkX3_bursts_7 (by first | decide | (show _ < 5; omega) | (show _ < 10; omega) | omega) dX3_bursts_106 ?_
                        refine go_iload_n hC dX3_bursts_109 rfl ?_
                        refine go_iald hC rfl (by first | decide | (show _ < 5; omega) | (show _ < 10; omega) | omega) (gm_in rfl (by omega) (by decide)) (gm_cl rfl (by omega)) dX3_bursts_110 ?_
                        refine go_iconst (v := 2) hC dX3_bursts_111 (by decide) ?_
                        refine go_icmp_ne hC 119 dX3_bursts_112 (by decide) (fun h112 => ?_) (fun h112 => ?_)
                        ·
                          refine go_iconst (v := 0) hC dX3_bursts_119 (by decide) ?_
                          refine go_cast ?_ rfl hj120
                          first | rw [tF_f (fun q => h102 q.1)] | rw [tF_f (fun q => h112 q.2)] | rw [tF_t (P := (iter (bm1 j) i (iter bm2 j (buP G 5).1)) 2 j 0 = 2 ∧ (iter (bm1 j) i (iter bm2 j (buP G 5).1)) 2 i 0 = 2) ⟨h102, h112⟩]
                        ·
                          refine go_iconst (v := 1) hC dX3_bursts_115 (by decide) ?_
                          refine go_goto hC 120 dX3_bursts_116 (by decide) ?_
                          refine go_cast ?_ rfl hj120
                          first | rw [tF_f (fun q => h102 q.1)] | rw [tF_f (fun q => h112 q.2)] | rw [tF_t (P := (iter (bm1 j) i (iter bm2 j (buP G 5).1)) 2 j 0 = 2 ∧ (iter (bm1 j) i (iter bm2 j (buP G 5).1)) 2 i 0 = 2) ⟨h102, h112⟩]
              try dsimp only at lp90
              refine go_sub lp90 ?_
              repeat (first | exact gm_le_nil | refine gm_le_c ?_ | refine gm_le_n ?_)
        try dsimp only at lp83
        refine go_sub lp83 ?_
        repeat (first | exact gm_le_nil | refine gm_le_c ?_ | refine gm_le_n ?_)
      ·
        exact absurd (show nI 5 ≤ nI 5 from nI_le (Nat.le_refl _) (by decide)) h6
    · try dsimp only at ih ⊢
      refine go_iload_n hC dX3_bursts_4 rfl ?_
      refine go_iconst (v := 5) hC dX3_bursts_5 (by decide) ?_
      refine go_icmp_ge hC 81 dX3_bursts_6 (by decide) (fun h6 => ?_) (fun h6 => ?_)
      ·
        exact absurd h6 (show ¬ nI 5 ≤ nI j from nI_ge hj (by decide))
      ·
        refine go_aload_n hC dX3_bursts_9 rfl ?_
        refine go_getr (ci := 3) hC 1 kwX3_bursts_3 rfl rfl (by decide) rfl lkX3_bursts_7 (by first | decide | (show _ < 5; omega) | (show _ < 10; omega) | omega) dX3_bursts_10 ?_
        refine go_iload_n hC dX3_bursts_13 rfl ?_
        refine go_iald hC rfl (by first | decide | (show _ < 5; omega) | (show _ < 10; omega) | omega) (gm_in rfl (by omega) (by decide)) (gm_cl rfl (by omega)) dX3_bursts_14 ?_
        refine go_iconst (v := 2) hC dX3_bursts_15 (by decide) ?_
        refine go_icmp_ne hC 75 dX3_bursts_16 (by decide) (fun h16 => ?_) (fun h16 => ?_)
        ·
          refine go_iinc (v := 1) hC dX3_bursts_75 rfl (by decide) ?_
          simp only [gm_s0, gm_s1]
          refine go_goto hC 4 dX3_bursts_78 (by decide) ?_
          rw [nI_1]
          first | (rw [show buP G (j + 1) = _ from if_neg h16] at ih; exact ih) | (rw [show buP G (j + 1) = _ from if_pos h16] at ih; simp only [buS, gm_us, gm_un1 (show (25 : Nat) ≠ 40 by decide)] at ih ⊢; exact ih)
        ·
          refine go_aload_n hC dX3_bursts_19 rfl ?_
          refine go_getr (ci := 3) hC 39 kwX3_bursts_3 rfl rfl (by decide) rfl lkX3_bursts_95 (by first | decide | (show _ < 5; omega) | (show _ < 10; omega) | omega) dX3_bursts_20 ?_
          refine go_iload_n hC dX3_bursts_23 rfl ?_
          refine go_iload_n hC dX3_bursts_24 rfl ?_
          refine go_aload_n hC dX3_bursts_25 rfl ?_
          refine go_iload_n hC dX3_bursts_26 rfl ?_
          refine go_callV (n := 1) (k0 := 0) (n0 := 0) hC hX (c_X3_errorOf _ j hj) gX3_bursts_X3_errorOf rfl (by decide +kernel) ⟨rfl, rfl⟩ (by rw [hR]; exact ⟨by decide, by decide⟩) (by rw [hR]; exact ⟨by decide, by decide⟩) rfl rfl rfl (by first | decide | (show _ < 5; omega) | (show _ < 10; omega) | omega) rfl rfl rfl (Nat.le_of_ble_eq_true rfl) dX3_bursts_27 ?_
          simp only [gm_r0, gm_r1]
          refine go_iadd hC dX3_bursts_30 ?_
          refine go_iast hC rfl (by first | decide | (show _ < 5; omega) | (show _ < 10; omega) | omega) (gm_in rfl (by omega) (by decide)) (gm_cl rfl (by omega)) dX3_bursts_31 ?_
          refine go_aload_n hC dX3_bursts_32 rfl ?_
          refine go_getr (ci := 3) hC 40 kwX3_bursts_3 rfl rfl (by decide) rfl lkX3_bursts_98 (by first | decide | (show _ < 5; omega) | (show _ < 10; omega) | omega) dX3_bursts_33 ?_
          refine go_iload_n hC dX3_bursts_36 rfl ?_
          refine go_bipush (v := 16) hC dX3_bursts_37 (by decide) ?_
          refine go_bipush (v := 16) hC dX3_bursts_39 (by decide) ?_
          refine go_aload_n hC dX3_bursts_41 rfl ?_
          refine go_getr (ci := 3) hC 24 kwX3_bursts_3 rfl rfl (by decide) rfl lkX3_bursts_68 (by first | decide | (show _ < 5; omega) | (show _ < 10; omega) | omega) dX3_bursts_42 ?_
          refine go_iconst (v := 2) hC dX3_bursts_45 (by decide) ?_
          refine go_iload_n hC dX3_bursts_46 rfl ?_
          refine go_imul hC dX3_bursts_47 ?_
          refine go_iald hC rfl (by first | decide | (show _ < 5; omega) | (show _ < 10; omega) | omega) (gm_in (n := 2 * j) (pk_mul 2 j) (by omega) (by decide)) (gm_cl (n := 2 * j) (pk_mul 2 j) (by omega)) dX3_bursts_48 ?_
          refine go_aload_n hC dX3_bursts_49 rfl ?_
          refine go_getr (ci := 3) hC 24 kwX3_bursts_3 rfl rfl (by decide) rfl lkX3_bursts_68 (by first | decide | (show _ < 5; omega) | (show _ < 10; omega) | omega) dX3_bursts_50 ?_
          refine go_iconst (v := 2) hC dX3_bursts_53 (by decide) ?_
          refine go_iload_n hC dX3_bursts_54 rfl ?_
          refine go_imul hC dX3_bursts_55 ?_
          refine go_iconst (v := 1) hC dX3_bursts_56 (by decide) ?_
          refine go_iadd hC dX3_bursts_57 ?_
          refine go_iald hC rfl (by first | decide | (show _ < 5; omega) | (show _ < 10; omega) | omega) (gm_in (n := 2 * j + 1) (show (2 : Int32) * nI j + 1 = nI (2 * j + 1) by rw [← nI_1]; exact congrArg (· + 1) (pk_mul 2 j)) (by omega) (by decide)) (gm_cl (n := 2 * j + 1) (show (2 : Int32) * nI j + 1 = nI (2 * j + 1) by rw [← nI_1]; exact congrArg (· + 1) (pk_mul 2 j)) (by omega)) dX3_bursts_58 ?_
          refine go_iadd hC dX3_bursts_59 ?_
          refine go_imul hC dX3_bursts_60 ?_
          refine go_iadd hC dX3_bursts_61 ?_
          refine go_iast hC rfl (by first | decide | (show _ < 5; omega) | (show _ < 10; omega) | omega) (gm_in rfl (by omega) (by decide)) (gm_cl rfl (by omega)) dX3_bursts_62 ?_
          refine go_iload_n hC dX3_bursts_63 rfl ?_
          refine go_aload_n hC dX3_bursts_64 rfl ?_
          refine go_getr (ci := 3) hC 40 kwX3_bursts_3 rfl rfl (by decide) rfl lkX3_bursts_98 (by first | decide | (show _ < 5; omega) | (show _ < 10; omega) | omega) dX3_bursts_65 ?_
          refine go_iload_n hC dX3_bursts_68 rfl ?_
          refine go_iald hC rfl (by first | decide | (show _ < 5; omega) | (show _ < 10; omega) | omega) (gm_in rfl (by omega) (by decide)) (gm_cl rfl (by omega)) dX3_bursts_69 ?_
          refine go_bipush (v := 32) hC dX3_bursts_70 (by decide) ?_
          refine go_iadd hC dX3_bursts_72 ?_
          refine go_iadd hC dX3_bursts_73 ?_
          refine go_istore_n hC 1 dX3_bursts_74 rfl (Nat.le_of_ble_eq_true rfl) ?_
          simp only [gm_s0, gm_s1]
          refine go_iinc (v := 1) hC dX3_bursts_75 rfl (by decide) ?_
          simp only [gm_s0, gm_s1]
          refine go_goto hC 4 dX3_bursts_78 (by decide) ?_
          rw [nI_1]
          first | (rw [show buP G (j + 1) = _ from if_neg h16] at ih; exact ih) | (rw [show buP G (j + 1) = _ from if_pos h16] at ih; simp only [buS, gm_us, gm_un1 (show (25 : Nat) ≠ 40 by decide)] at ih ⊢; exact ih)
  try dsimp only at lp4
  exact lp4
