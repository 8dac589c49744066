/-! ===== the class: the fibre (3) ===== -/
def absF (x : Int32) : Int32 := if 0 ≤ x then x else 0 - x
def we1 (u : Nat) (M : gm_M) : gm_M := if absF (M 1 5 u) ≤ 8 then M else gm_up (gm_up (gm_up M 1 1 u 1) 1 4 u 0) 2 15 0 (M 2 15 0 + 1)
def we2 : Nat → gm_M → gm_M := fun u M => if absF (M 1 5 u) ≤ 4 then we1 u M else gm_up (we1 u M) 1 5 u 0
theorem kwX2_watchErrors_1 : ∀ w ∈ wsX10, w ∈ wsX2_watchErrors := by decide +kernel
theorem kwX2_watchErrors_2 : ∀ w ∈ wsX20, w ∈ wsX2_watchErrors := by decide +kernel
theorem lkX2_watchErrors_11 : Cond.fieldLink RX2 11 "SharedFibre" "units" "[LSharedFibre$Unit;" ∈ wsX2_watchErrors := by decide +kernel
theorem lkX2_watchErrors_58 : Cond.fieldLink RX2 58 "SharedFibre$Unit" "state" "I" ∈ wsX2_watchErrors := by decide +kernel
theorem lkX2_watchErrors_101 : Cond.fieldLink RX2 101 "SharedFibre$Unit" "error" "I" ∈ wsX2_watchErrors := by decide +kernel
theorem lkX2_watchErrors_197 : Cond.fieldLink RX2 197 "SharedFibre$Unit" "answered" "I" ∈ wsX2_watchErrors := by decide +kernel
theorem lkX2_watchErrors_229 : Cond.fieldLink RX2 229 "SharedFibre" "strayed" "I" ∈ wsX2_watchErrors := by decide +kernel
theorem lmX2_watchErrors_abs_c : Cond.code Lib.Math.abs.name Lib.Math.abs.code 1 (some .int) ∈ wsX2_watchErrors := by decide +kernel
theorem lmX2_watchErrors_abs_i : Cond.initialized "java/lang/Math" ∈ wsX2_watchErrors := by decide +kernel
theorem lmX2_watchErrors_abs_l : Cond.methodLink RX2 247 Lib.Math.abs.name ∈ wsX2_watchErrors := by decide +kernel
theorem lmX2_watchErrors_abs_s : Cond.static Lib.Math.abs.name ∈ wsX2_watchErrors := by decide +kernel
set_option maxHeartbeats 4000000 in
set_option maxRecDepth 100000 in
/-- watchErrors -/
theorem c_X2_watchErrors (M : gm_M) : KC lyC yX2_watchErrors wsX2_watchErrors ({ frames := 1, cells := 0, slots := 0, locals := 21 }) (fun ad => [.ref (ad 2 0)]) M (fun _ => none) (iter we2 5 M) := by
  refine KC.of_v (by decide) rfl rfl (fun _ => by simp) (fun _ => by simp [Value.category])  ?_
  intro X hC hR hX hE
  simp only [List.map_cons, List.map_nil, List.cons_append, List.nil_append, List.length_cons, List.length_nil, List.replicate, Nat.reduceAdd, Nat.reduceSub]
  have lp10 : (fun j : Nat => GO lyC X 0 0 10 [some (.ref (gm_ad X 2 0)), some (.ref (gm_ad X 3 0)), some (.int 5), some (.int (nI j)), none, none] [] (iter we2 j M)) 0 := by
    refine loopN (5) (fun j : Nat => GO lyC X 0 0 10 [some (.ref (gm_ad X 2 0)), some (.ref (gm_ad X 3 0)), some (.int 5), some (.int (nI j)), none, none] [] (iter we2 j M)) ?_ (fun j hj ih => ?_)
    · try dsimp only
      refine go_iload_n hC dX2_watchErrors_10 rfl ?_
      refine go_iload_n hC dX2_watchErrors_11 rfl ?_
      refine go_icmp_ge hC 77 dX2_watchErrors_12 (by decide) (fun h12 => ?_) (fun h12 => ?_)
      ·
        refine go_cast ?_ ?_ (hE _ _ dX2_watchErrors_77)
        · first | rfl | (simp [*]; done) | (simp [*, gm_us, gm_un1, gm_un2]; done)
        · first | rfl | (simp [*]; done) | (simp [*, gm_us, gm_un1, gm_un2]; done)
      ·
        exact absurd (show nI 5 ≤ nI 5 from nI_le (Nat.le_refl _) (by decide)) h12
    · try dsimp only at ih ⊢
      refine go_iload_n hC dX2_watchErrors_10 rfl ?_
      refine go_iload_n hC dX2_watchErrors_11 rfl ?_
      refine go_icmp_ge hC 77 dX2_watchErrors_12 (by decide) (fun h12 => ?_) (fun h12 => ?_)
      ·
        exact absurd h12 (show ¬ nI 5 ≤ nI j from nI_ge hj (by decide))
      ·
        refine go_aload_n hC dX2_watchErrors_15 rfl ?_
        refine go_iload_n hC dX2_watchErrors_16 rfl ?_
        refine go_aald hC rfl (fun _ => rfl) (by first | decide | (show _ < 5; omega) | (show _ < 10; omega) | omega) (gm_in rfl (by omega) (by decide)) (gm_cu rfl (by omega)) dX2_watchErrors_17 ?_
        refine go_astore hC dX2_watchErrors_18 (Nat.le_of_ble_eq_true rfl) ?_
        simp only [gm_s0, gm_s1]
        refine go_aload hC dX2_watchErrors_20 rfl ?_
        refine go_geti (ci := 1) hC 5 kwX2_watchErrors_1 rfl rfl (by decide) rfl lkX2_watchErrors_101 (by first | decide | (show _ < 5; omega) | (show _ < 10; omega) | omega) dX2_watchErrors_22 ?_
        refine go_abs hC lmX2_watchErrors_abs_l lmX2_watchErrors_abs_s lmX2_watchErrors_abs_i lmX2_watchErrors_abs_c (by rw [hR]; exact ⟨by decide, Nat.le_of_ble_eq_true rfl⟩) (by rw [hR]; exact ⟨by decide, by decide⟩) rfl dX2_watchErrors_25 ?_
        refine go_istore hC dX2_watchErrors_28 (Nat.le_of_ble_eq_true rfl) ?_
        simp only [gm_s0, gm_s1]
        refine go_iload hC dX2_watchErrors_30 rfl ?_
        refine go_bipush (v := 8) hC dX2_watchErrors_32 (by decide) ?_
        refine go_icmp_le hC 59 dX2_watchErrors_34 (by decide) (fun h34 => ?_) (fun h34 => ?_)
        ·
          refine go_iload hC dX2_watchErrors_59 rfl ?_
          refine go_iconst (v := 4) hC dX2_watchErrors_61 (by decide) ?_
          refine go_icmp_le hC 71 dX2_watchErrors_62 (by decide) (fun h62 => ?_) (fun h62 => ?_)
          ·
            refine go_iinc (v := 1) hC dX2_watchErrors_71 rfl (by decide) ?_
            simp only [gm_s0, gm_s1]
            refine go_goto hC 10 dX2_watchErrors_74 (by decide) ?_
            rw [nI_1]
            refine go_sub (go_mem ?_ ih) ?_
            · simp only [iter]
              generalize iter we2 j M = M1 at h34 h62 ⊢
              have h34 := h34
              have h62 := h62
              first | (rw [show we2 j M1 = _ from if_pos h62, show we1 j M1 = _ from if_pos h34]; done) | (rw [show we2 j M1 = _ from if_pos h62, show we1 j M1 = _ from if_neg h34, gm_un1 (by decide), gm_un1 (by decide)]; done) | (rw [show we2 j M1 = _ from if_neg h62, show we1 j M1 = _ from if_pos h34]; done) | (rw [show we2 j M1 = _ from if_neg h62, show we1 j M1 = _ from if_neg h34, gm_un1 (by decide), gm_un1 (by decide)]; done)
            repeat (first | exact gm_le_nil | refine gm_le_c ?_ | refine gm_le_n ?_)
          ·
            refine go_aload hC dX2_watchErrors_65 rfl ?_
            refine go_iconst (v := 0) hC dX2_watchErrors_67 (by decide) ?_
            refine go_puti (ci := 1) hC 5 kwX2_watchErrors_1 rfl tyX1 tyX1_ok nmX1 rfl (by decide) rfl lkX2_watchErrors_101 (by first | decide | (show _ < 5; omega) | (show _ < 10; omega) | omega) rfl rfl rfl dX2_watchErrors_68 ?_
            refine go_iinc (v := 1) hC dX2_watchErrors_71 rfl (by decide) ?_
            simp only [gm_s0, gm_s1]
            refine go_goto hC 10 dX2_watchErrors_74 (by decide) ?_
            rw [nI_1]
            refine go_sub (go_mem ?_ ih) ?_
            · simp only [iter]
              generalize iter we2 j M = M1 at h34 h62 ⊢
              have h34 := h34
              have h62 := h62
              first | (rw [show we2 j M1 = _ from if_pos h62, show we1 j M1 = _ from if_pos h34]; done) | (rw [show we2 j M1 = _ from if_pos h62, show we1 j M1 = _ from if_neg h34, gm_un1 (by decide), gm_un1 (by decide)]; done) | (rw [show we2 j M1 = _ from if_neg h62, show we1 j M1 = _ from if_pos h34]; done) | (rw [show we2 j M1 = _ from if_neg h62, show we1 j M1 = _ from if_neg h34, gm_un1 (by decide), gm_un1 (by decide)]; done)
            repeat (first | exact gm_le_nil | refine gm_le_c ?_ | refine gm_le_n ?_)
        ·
          refine go_aload hC dX2_watchErrors_37 rfl ?_
          refine go_iconst (v := 1) hC dX2_watchErrors_39 (by decide) ?_
          refine go_puti (ci := 1) hC 1 kwX2_watchErrors_1 rfl tyX1 tyX1_ok nmX1 rfl (by decide) rfl lkX2_watchErrors_58 (by first | decide | (show _ < 5; omega) | (show _ < 10; omega) | omega) rfl rfl rfl dX2_watchErrors_40 ?_
          refine go_aload hC dX2_watchErrors_43 rfl ?_
          refine go_iconst (v := 0) hC dX2_watchErrors_45 (by decide) ?_
          refine go_puti (ci := 1) hC 4 kwX2_watchErrors_1 rfl tyX1 tyX1_ok nmX1 rfl (by decide) rfl lkX2_watchErrors_197 (by first | decide | (show _ < 5; omega) | (show _ < 10; omega) | omega) rfl rfl rfl dX2_watchErrors_46 ?_
          refine go_aload_n hC dX2_watchErrors_49 rfl ?_
          refine go_dup hC dX2_watchErrors_50 rfl ?_
          refine go_geti (ci := 2) hC 15 kwX2_watchErrors_2 rfl rfl (by decide) rfl lkX2_watchErrors_229 (by first | decide | (show _ < 5; omega) | (show _ < 10; omega) | omega) dX2_watchErrors_51 ?_
          refine go_iconst (v := 1) hC dX2_watchErrors_54 (by decide) ?_
          refine go_iadd hC dX2_watchErrors_55 ?_
          refine go_puti (ci := 2) hC 15 kwX2_watchErrors_2 rfl tyX2 tyX2_ok nmX2 rfl (by decide) rfl lkX2_watchErrors_229 (by first | decide | (show _ < 5; omega) | (show _ < 10; omega) | omega) rfl rfl rfl dX2_watchErrors_56 ?_
          refine go_iload hC dX2_watchErrors_59 rfl ?_
          refine go_iconst (v := 4) hC dX2_watchErrors_61 (by decide) ?_
          refine go_icmp_le hC 71 dX2_watchErrors_62 (by decide) (fun h62 => ?_) (fun h62 => ?_)
          ·
            refine go_iinc (v := 1) hC dX2_watchErrors_71 rfl (by decide) ?_
            simp only [gm_s0, gm_s1]
            refine go_goto hC 10 dX2_watchErrors_74 (by decide) ?_
            rw [nI_1]
            refine go_sub (go_mem ?_ ih) ?_
            · simp only [iter]
              generalize iter we2 j M = M1 at h34 h62 ⊢
              have h34 := h34
              have h62 := h62
              first | (rw [show we2 j M1 = _ from if_pos h62, show we1 j M1 = _ from if_pos h34]; done) | (rw [show we2 j M1 = _ from if_pos h62, show we1 j M1 = _ from if_neg h34, gm_un1 (by decide), gm_un1 (by decide)]; done) | (rw [show we2 j M1 = _ from if_neg h62, show we1 j M1 = _ from if_pos h34]; done) | (rw [show we2 j M1 = _ from if_neg h62, show we1 j M1 = _ from if_neg h34, gm_un1 (by decide), gm_un1 (by decide)]; done)
            repeat (first | exact gm_le_nil | refine gm_le_c ?_ | refine gm_le_n ?_)
          ·
            refine go_aload hC dX2_watchErrors_65 rfl ?_
            refine go_iconst (v := 0) hC dX2_watchErrors_67 (by decide) ?_
            refine go_puti (ci := 1) hC 5 kwX2_watchErrors_1 rfl tyX1 tyX1_ok nmX1 rfl (by decide) rfl lkX2_watchErrors_101 (by first | decide | (show _ < 5; omega) | (show _ < 10; omega) | omega) rfl rfl rfl dX2_watchErrors_68 ?_
            refine go_iinc (v := 1) hC dX2_watchErrors_71 rfl (by decide) ?_
            simp only [gm_s0, gm_s1]
            refine go_goto hC 10 dX2_watchErrors_74 (by decide) ?_
            rw [nI_1]
            refine go_sub (go_mem ?_ ih) ?_
            · simp only [iter]
              generalize iter we2 j M = M1 at h34 h62 ⊢
              have h34 := h34
              have h62 := h62
              first | (rw [show we2 j M1 = _ from if_pos h62, show we1 j M1 = _ from if_pos h34]; done) | (rw [show we2 j M1 = _ from if_pos h62, show we1 j M1 = _ from if_neg h34, gm_un1 (by decide), gm_un1 (by decide)]; done) | (rw [show we2 j M1 = _ from if_neg h62, show we1 j M1 = _ from if_pos h34]; done) | (rw [show we2 j M1 = _ from if_neg h62, show we1 j M1 = _ from if_neg h34, gm_un1 (by decide), gm_un1 (by decide)]; done)
            repeat (first | exact gm_le_nil | refine gm_le_c ?_ | refine gm_le_n ?_)
  try dsimp only at lp10
  refine go_aload_n hC dX2_watchErrors_0 rfl ?_
  refine go_getr (ci := 2) hC 0 kwX2_watchErrors_2 rfl rfl (by decide) rfl lkX2_watchErrors_11 (by first | decide | (show _ < 5; omega) | (show _ < 10; omega) | omega) dX2_watchErrors_1 ?_
  refine go_astore_n hC 1 dX2_watchErrors_4 rfl (Nat.le_of_ble_eq_true rfl) ?_
  simp only [gm_s0, gm_s1]
  refine go_aload_n hC dX2_watchErrors_5 rfl ?_
  refine go_alenr (v := 5) hC rfl (fun _ => rfl) (by first | decide | (show _ < 5; omega) | (show _ < 10; omega) | omega) (by decide) dX2_watchErrors_6 ?_
  refine go_istore_n hC 2 dX2_watchErrors_7 rfl (Nat.le_of_ble_eq_true rfl) ?_
  simp only [gm_s0, gm_s1]
  refine go_iconst (v := 0) hC dX2_watchErrors_8 (by decide) ?_
  refine go_istore_n hC 3 dX2_watchErrors_9 rfl (Nat.le_of_ble_eq_true rfl) ?_
  simp only [gm_s0, gm_s1]
  exact lp10
