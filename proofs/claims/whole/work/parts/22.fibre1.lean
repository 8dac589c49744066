/-! ===== the class: the fibre, calls that throw nothing (1) ===== -/
theorem kwX2_hasSerial_1 : ∀ w ∈ wsX10, w ∈ wsX2_hasSerial := by decide +kernel
theorem kwX2_hasSerial_2 : ∀ w ∈ wsX20, w ∈ wsX2_hasSerial := by decide +kernel
theorem lkX2_hasSerial_11 : Cond.fieldLink RX2 11 "SharedFibre" "units" "[LSharedFibre$Unit;" ∈ wsX2_hasSerial := by decide +kernel
theorem lkX2_hasSerial_58 : Cond.fieldLink RX2 58 "SharedFibre$Unit" "state" "I" ∈ wsX2_hasSerial := by decide +kernel
theorem lkX2_hasSerial_62 : Cond.fieldLink RX2 62 "SharedFibre$Unit" "serial" "I" ∈ wsX2_hasSerial := by decide +kernel
set_option maxHeartbeats 4000000 in
set_option maxRecDepth 100000 in
/-- hasSerial -/
theorem c_X2_hasSerial (M : gm_M) (a : Int32) : KC lyC yX2_hasSerial wsX2_hasSerial ({ frames := 0, cells := 0, slots := 0, locals := 0 }) (fun ad => [.ref (ad 2 0), .int a]) M (fun _ => some (.int (tF (∃ k, k < 5 ∧ (¬ M 1 1 k = 0 ∧ M 1 2 k = a))))) (M) := by
  refine KC.of_z (by decide) rfl rfl (fun _ => by simp) (fun _ => by simp [Value.category]) (tF_n _) ?_
  intro X hC hR hX hE
  simp only [List.map_cons, List.map_nil, List.cons_append, List.nil_append, List.length_cons, List.length_nil, List.replicate, Nat.reduceAdd, Nat.reduceSub]
  have lp11 : (fun j : Nat => (∀ k, k < j → ¬ (¬ M 1 1 k = 0 ∧ M 1 2 k = a)) → GO lyC X 0 0 11 [some (.ref (gm_ad X 2 0)), some (.int a), some (.ref (gm_ad X 3 0)), some (.int 5), some (.int (nI j)), none] [] M) 0 := by
    refine loopN (5) (fun j : Nat => (∀ k, k < j → ¬ (¬ M 1 1 k = 0 ∧ M 1 2 k = a)) → GO lyC X 0 0 11 [some (.ref (gm_ad X 2 0)), some (.int a), some (.ref (gm_ad X 3 0)), some (.int 5), some (.int (nI j)), none] [] M) ?_ (fun j hj ih => ?_)
    · try dsimp only
      intro hk
      refine go_iload hC dX2_hasSerial_11 rfl ?_
      refine go_iload_n hC dX2_hasSerial_13 rfl ?_
      refine go_icmp_ge hC 48 dX2_hasSerial_14 (by decide) (fun h14 => ?_) (fun h14 => ?_)
      ·
        refine go_iconst (v := 0) hC dX2_hasSerial_48 (by decide) ?_
        refine go_cast ?_ rfl (hE _ _ dX2_hasSerial_49)
        rw [tF_f (fun q => by obtain ⟨k, h1, h2⟩ := q; exact hk k h1 h2)]
      ·
        exact absurd (show nI 5 ≤ nI 5 from nI_le (Nat.le_refl _) (by decide)) h14
    · try dsimp only at ih ⊢
      intro hk
      refine go_iload hC dX2_hasSerial_11 rfl ?_
      refine go_iload_n hC dX2_hasSerial_13 rfl ?_
      refine go_icmp_ge hC 48 dX2_hasSerial_14 (by decide) (fun h14 => ?_) (fun h14 => ?_)
      ·
        exact absurd h14 (show ¬ nI 5 ≤ nI j from nI_ge hj (by decide))
      ·
        refine go_aload_n hC dX2_hasSerial_17 rfl ?_
        refine go_iload hC dX2_hasSerial_18 rfl ?_
        refine go_aald hC rfl (fun _ => rfl) (by first | decide | (show _ < 5; omega) | (show _ < 10; omega) | omega) (gm_in rfl (by omega) (by decide)) (gm_cu rfl (by omega)) dX2_hasSerial_20 ?_
        refine go_astore hC dX2_hasSerial_21 (Nat.le_of_ble_eq_true rfl) ?_
        simp only [gm_s0, gm_s1]
        refine go_aload hC dX2_hasSerial_23 rfl ?_
        refine go_geti (ci := 1) hC 1 kwX2_hasSerial_1 rfl rfl (by decide) rfl lkX2_hasSerial_58 (by first | decide | (show _ < 5; omega) | (show _ < 10; omega) | omega) dX2_hasSerial_25 ?_
        refine go_if_eq hC 42 dX2_hasSerial_28 (by decide) (fun h28 => ?_) (fun h28 => ?_)
        ·
          have hnk : ¬ (¬ M 1 1 j = 0 ∧ M 1 2 j = a) := fun q => q.1 h28
          refine go_iinc (v := 1) hC dX2_hasSerial_42 rfl (by decide) ?_
          simp only [gm_s0, gm_s1]
          refine go_goto hC 11 dX2_hasSerial_45 (by decide) ?_
          rw [nI_1]
          refine go_sub (ih (fun k h => ?_)) ?_
          · rcases Nat.lt_succ_iff_lt_or_eq.mp h with h | h
            · exact hk k h
            · subst h; exact hnk
          repeat (first | exact gm_le_nil | refine gm_le_c ?_ | refine gm_le_n ?_)
        ·
          refine go_aload hC dX2_hasSerial_31 rfl ?_
          refine go_geti (ci := 1) hC 2 kwX2_hasSerial_1 rfl rfl (by decide) rfl lkX2_hasSerial_62 (by first | decide | (show _ < 5; omega) | (show _ < 10; omega) | omega) dX2_hasSerial_33 ?_
          refine go_iload_n hC dX2_hasSerial_36 rfl ?_
          refine go_icmp_ne hC 42 dX2_hasSerial_37 (by decide) (fun h37 => ?_) (fun h37 => ?_)
          ·
            have hnk : ¬ (¬ M 1 1 j = 0 ∧ M 1 2 j = a) := fun q => h37 q.2
            refine go_iinc (v := 1) hC dX2_hasSerial_42 rfl (by decide) ?_
            simp only [gm_s0, gm_s1]
            refine go_goto hC 11 dX2_hasSerial_45 (by decide) ?_
            rw [nI_1]
            refine go_sub (ih (fun k h => ?_)) ?_
            · rcases Nat.lt_succ_iff_lt_or_eq.mp h with h | h
              · exact hk k h
              · subst h; exact hnk
            repeat (first | exact gm_le_nil | refine gm_le_c ?_ | refine gm_le_n ?_)
          ·
            refine go_iconst (v := 1) hC dX2_hasSerial_40 (by decide) ?_
            refine go_cast ?_ rfl (hE _ _ dX2_hasSerial_41)
            rw [tF_t ⟨j, hj, h28, h37⟩]
  try dsimp only at lp11
  refine go_aload_n hC dX2_hasSerial_0 rfl ?_
  refine go_getr (ci := 2) hC 0 kwX2_hasSerial_2 rfl rfl (by decide) rfl lkX2_hasSerial_11 (by first | decide | (show _ < 5; omega) | (show _ < 10; omega) | omega) dX2_hasSerial_1 ?_
  refine go_astore_n hC 2 dX2_hasSerial_4 rfl (Nat.le_of_ble_eq_true rfl) ?_
  simp only [gm_s0, gm_s1]
  refine go_aload_n hC dX2_hasSerial_5 rfl ?_
  refine go_alenr (v := 5) hC rfl (fun _ => rfl) (by first | decide | (show _ < 5; omega) | (show _ < 10; omega) | omega) (by decide) dX2_hasSerial_6 ?_
  refine go_istore_n hC 3 dX2_hasSerial_7 rfl (Nat.le_of_ble_eq_true rfl) ?_
  simp only [gm_s0, gm_s1]
  refine go_iconst (v := 0) hC dX2_hasSerial_8 (by decide) ?_
  refine go_istore hC dX2_hasSerial_9 (Nat.le_of_ble_eq_true rfl) ?_
  simp only [gm_s0, gm_s1]
  exact lp11 (fun k h => absurd h (Nat.not_lt_zero k))
def faD (M : gm_M) : Nat → Nat → Nat
  | 0, j => j
  | d + 1, j => if M 1 1 j = 0 then j else faD M d (j + 1)
theorem kwX2_firstAway_1 : ∀ w ∈ wsX10, w ∈ wsX2_firstAway := by decide +kernel
theorem kwX2_firstAway_2 : ∀ w ∈ wsX20, w ∈ wsX2_firstAway := by decide +kernel
theorem lkX2_firstAway_11 : Cond.fieldLink RX2 11 "SharedFibre" "units" "[LSharedFibre$Unit;" ∈ wsX2_firstAway := by decide +kernel
theorem lkX2_firstAway_58 : Cond.fieldLink RX2 58 "SharedFibre$Unit" "state" "I" ∈ wsX2_firstAway := by decide +kernel
set_option maxHeartbeats 4000000 in
set_option maxRecDepth 100000 in
/-- firstAway -/
theorem c_X2_firstAway (M : gm_M) : KC lyC yX2_firstAway wsX2_firstAway ({ frames := 0, cells := 0, slots := 0, locals := 0 }) (fun ad => [.ref (ad 2 0)]) M (fun _ => some (.int (nI (faD M 5 0)))) (M) := by
  refine KC.of_i (by decide) rfl rfl (fun _ => by simp) (fun _ => by simp [Value.category])  ?_
  intro X hC hR hX hE
  simp only [List.map_cons, List.map_nil, List.cons_append, List.nil_append, List.length_cons, List.length_nil, List.replicate, Nat.reduceAdd, Nat.reduceSub]
  have lp2 : (fun j : Nat => faD M (5 - j) j = faD M 5 0 → GO lyC X 0 0 2 [some (.ref (gm_ad X 2 0)), some (.int (nI j))] [] M) 0 := by
    refine loopN (5) (fun j : Nat => faD M (5 - j) j = faD M 5 0 → GO lyC X 0 0 2 [some (.ref (gm_ad X 2 0)), some (.int (nI j))] [] M) ?_ (fun j hj ih => ?_)
    · try dsimp only
      intro hfa
      refine go_iload_n hC dX2_firstAway_2 rfl ?_
      refine go_iconst (v := 5) hC dX2_firstAway_3 (by decide) ?_
      refine go_icmp_ge hC 25 dX2_firstAway_4 (by decide) (fun h4 => ?_) (fun h4 => ?_)
      ·
        refine go_iload_n hC dX2_firstAway_25 rfl ?_
        refine go_cast ?_ rfl (hE _ _ dX2_firstAway_26)
        rw [← hfa]
        first | rfl | (obtain ⟨d9, hd9⟩ : ∃ d9, 5 - j = d9 + 1 := ⟨4 - j, by omega⟩; rw [hd9]; simp [faD, *])
      ·
        exact absurd (show nI 5 ≤ nI 5 from nI_le (Nat.le_refl _) (by decide)) h4
    · try dsimp only at ih ⊢
      intro hfa
      refine go_iload_n hC dX2_firstAway_2 rfl ?_
      refine go_iconst (v := 5) hC dX2_firstAway_3 (by decide) ?_
      refine go_icmp_ge hC 25 dX2_firstAway_4 (by decide) (fun h4 => ?_) (fun h4 => ?_)
      ·
        exact absurd h4 (show ¬ nI 5 ≤ nI j from nI_ge hj (by decide))
      ·
        refine go_aload_n hC dX2_firstAway_7 rfl ?_
        refine go_getr (ci := 2) hC 0 kwX2_firstAway_2 rfl rfl (by decide) rfl lkX2_firstAway_11 (by first | decide | (show _ < 5; omega) | (show _ < 10; omega) | omega) dX2_firstAway_8 ?_
        refine go_iload_n hC dX2_firstAway_11 rfl ?_
        refine go_aald hC rfl (fun _ => rfl) (by first | decide | (show _ < 5; omega) | (show _ < 10; omega) | omega) (gm_in rfl (by omega) (by decide)) (gm_cu rfl (by omega)) dX2_firstAway_12 ?_
        refine go_geti (ci := 1) hC 1 kwX2_firstAway_1 rfl rfl (by decide) rfl lkX2_firstAway_58 (by first | decide | (show _ < 5; omega) | (show _ < 10; omega) | omega) dX2_firstAway_13 ?_
        refine go_if_eq hC 25 dX2_firstAway_16 (by decide) (fun h16 => ?_) (fun h16 => ?_)
        ·
          refine go_iload_n hC dX2_firstAway_25 rfl ?_
          refine go_cast ?_ rfl (hE _ _ dX2_firstAway_26)
          rw [← hfa]
          first | rfl | (obtain ⟨d9, hd9⟩ : ∃ d9, 5 - j = d9 + 1 := ⟨4 - j, by omega⟩; rw [hd9]; simp [faD, *])
        ·
          refine go_iinc (v := 1) hC dX2_firstAway_19 rfl (by decide) ?_
          simp only [gm_s0, gm_s1]
          refine go_goto hC 2 dX2_firstAway_22 (by decide) ?_
          rw [nI_1]
          refine ih ?_
          rw [← hfa]
          obtain ⟨d9, hd9⟩ : ∃ d9, 5 - j = d9 + 1 := ⟨4 - j, by omega⟩
          rw [hd9, show 5 - (j + 1) = d9 by omega]
          simp [faD, h16]
  try dsimp only at lp2
  refine go_iconst (v := 0) hC dX2_firstAway_0 (by decide) ?_
  refine go_istore_n hC 1 dX2_firstAway_1 rfl (Nat.le_of_ble_eq_true rfl) ?_
  simp only [gm_s0, gm_s1]
  exact lp2 rfl
theorem kwX2_contracted_0 : ∀ w ∈ wsX00, w ∈ wsX2_contracted := by decide +kernel
theorem kwX2_contracted_1 : ∀ w ∈ wsX10, w ∈ wsX2_contracted := by decide +kernel
theorem kwX2_contracted_2 : ∀ w ∈ wsX20, w ∈ wsX2_contracted := by decide +kernel
theorem lkX2_contracted_11 : Cond.fieldLink RX2 11 "SharedFibre" "units" "[LSharedFibre$Unit;" ∈ wsX2_contracted := by decide +kernel
theorem lkX2_contracted_84 : Cond.fieldLink RX2 84 "SharedFibre$Container" "fixed" "I" ∈ wsX2_contracted := by decide +kernel
theorem lkX2_contracted_89 : Cond.fieldLink RX2 89 "SharedFibre$Container" "assured" "I" ∈ wsX2_contracted := by decide +kernel
theorem lkX2_contracted_240 : Cond.fieldLink RX2 240 "SharedFibre$Unit" "containers" "[LSharedFibre$Container;" ∈ wsX2_contracted := by decide +kernel
set_option maxHeartbeats 4000000 in
set_option maxRecDepth 100000 in
/-- contracted -/
theorem c_X2_contracted (M : gm_M) : KC lyC yX2_contracted wsX2_contracted ({ frames := 0, cells := 0, slots := 0, locals := 0 }) (fun ad => [.ref (ad 2 0)]) M (fun _ => some (.int (bx_sum (fun k => M 0 4 k + M 0 5 k) 10))) (M) := by
  refine KC.of_i (by decide) rfl rfl (fun _ => by simp) (fun _ => by simp [Value.category])  ?_
  intro X hC hR hX hE
  simp only [List.map_cons, List.map_nil, List.cons_append, List.nil_append, List.length_cons, List.length_nil, List.replicate, Nat.reduceAdd, Nat.reduceSub]
  have lp13 : (fun j : Nat => GO lyC X 0 0 13 [some (.ref (gm_ad X 2 0)), some (.int (bx_sum (fun k => M 0 4 k + M 0 5 k) (2 * j))), some (.ref (gm_ad X 3 0)), some (.int 5), some (.int (nI j)), none, none, none, none, none] [] M) 0 := by
    refine loopN (5) (fun j : Nat => GO lyC X 0 0 13 [some (.ref (gm_ad X 2 0)), some (.int (bx_sum (fun k => M 0 4 k + M 0 5 k) (2 * j))), some (.ref (gm_ad X 3 0)), some (.int 5), some (.int (nI j)), none, none, none, none, none] [] M) ?_ (fun j hj ih => ?_)
    · try dsimp only
      refine go_iload hC dX2_contracted_13 rfl ?_
      refine go_iload_n hC dX2_contracted_15 rfl ?_
      refine go_icmp_ge hC 80 dX2_contracted_16 (by decide) (fun h16 => ?_) (fun h16 => ?_)
      ·
        refine go_iload_n hC dX2_contracted_80 rfl ?_
        refine go_cast ?_ ?_ (hE _ _ dX2_contracted_81)
        · first | rfl | (simp [*]; done) | (simp [*, gm_us, gm_un1, gm_un2]; done)
        · first | rfl | (simp [*]; done) | (simp [*, gm_us, gm_un1, gm_un2]; done)
      ·
        exact absurd (show nI 5 ≤ nI 5 from nI_le (Nat.le_refl _) (by decide)) h16
    · try dsimp only at ih ⊢
      refine go_iload hC dX2_contracted_13 rfl ?_
      refine go_iload_n hC dX2_contracted_15 rfl ?_
      refine go_icmp_ge hC 80 dX2_contracted_16 (by decide) (fun h16 => ?_) (fun h16 => ?_)
      ·
        exact absurd h16 (show ¬ nI 5 ≤ nI j from nI_ge hj (by decide))
      ·
        refine go_aload_n hC dX2_contracted_19 rfl ?_
        refine go_iload hC dX2_contracted_20 rfl ?_
        refine go_aald hC rfl (fun _ => rfl) (by first | decide | (show _ < 5; omega) | (show _ < 10; omega) | omega) (gm_in rfl (by omega) (by decide)) (gm_cu rfl (by omega)) dX2_contracted_22 ?_
        refine go_astore hC dX2_contracted_23 (Nat.le_of_ble_eq_true rfl) ?_
        simp only [gm_s0, gm_s1]
        refine go_aload hC dX2_contracted_25 rfl ?_
        refine go_getr (ci := 1) hC 0 kwX2_contracted_1 rfl rfl (by decide) rfl lkX2_contracted_240 (by first | decide | (show _ < 5; omega) | (show _ < 10; omega) | omega) dX2_contracted_27 ?_
        refine go_astore hC dX2_contracted_30 (Nat.le_of_ble_eq_true rfl) ?_
        simp only [gm_s0, gm_s1]
        refine go_aload hC dX2_contracted_32 rfl ?_
        refine go_alenr (v := 2) hC rfl (fun _ => rfl) (by first | decide | (show _ < 5; omega) | (show _ < 10; omega) | omega) (by decide) dX2_contracted_34 ?_
        refine go_istore hC dX2_contracted_35 (Nat.le_of_ble_eq_true rfl) ?_
        simp only [gm_s0, gm_s1]
        refine go_iconst (v := 0) hC dX2_contracted_37 (by decide) ?_
        refine go_istore hC dX2_contracted_38 (Nat.le_of_ble_eq_true rfl) ?_
        simp only [gm_s0, gm_s1]
        have lp40 : (fun i : Nat => GO lyC X 0 0 40 [some (.ref (gm_ad X 2 0)), some (.int (bx_sum (fun k => M 0 4 k + M 0 5 k) (2 * j + i))), some (.ref (gm_ad X 3 0)), some (.int 5), some (.int (nI j)), some (.ref (gm_ad X 1 j)), some (.ref (gm_ad X 9 j)), some (.int 2), some (.int (nI i)), none] [] M) 0 := by
          refine loopN (2) (fun i : Nat => GO lyC X 0 0 40 [some (.ref (gm_ad X 2 0)), some (.int (bx_sum (fun k => M 0 4 k + M 0 5 k) (2 * j + i))), some (.ref (gm_ad X 3 0)), some (.int 5), some (.int (nI j)), some (.ref (gm_ad X 1 j)), some (.ref (gm_ad X 9 j)), some (.int 2), some (.int (nI i)), none] [] M) ?_ (fun i hi ihi => ?_)
          · try dsimp only
            refine go_iload hC dX2_contracted_40 rfl ?_
            refine go_iload hC dX2_contracted_42 rfl ?_
            refine go_icmp_ge hC 74 dX2_contracted_44 (by decide) (fun h44 => ?_) (fun h44 => ?_)
            ·
              refine go_iinc (v := 1) hC dX2_contracted_74 rfl (by decide) ?_
              simp only [gm_s0, gm_s1]
              refine go_goto hC 13 dX2_contracted_77 (by decide) ?_
              rw [nI_1]
              refine go_sub ih ?_
              repeat (first | exact gm_le_nil | refine gm_le_c ?_ | refine gm_le_n ?_)
            ·
              exact absurd (show nI 2 ≤ nI 2 from nI_le (Nat.le_refl _) (by decide)) h44
          · try dsimp only at ihi ⊢
            refine go_iload hC dX2_contracted_40 rfl ?_
            refine go_iload hC dX2_contracted_42 rfl ?_
            refine go_icmp_ge hC 74 dX2_contracted_44 (by decide) (fun h44 => ?_) (fun h44 => ?_)
            ·
              exact absurd h44 (show ¬ nI 2 ≤ nI i from nI_ge hi (by decide))
            ·
              refine go_aload hC dX2_contracted_47 rfl ?_
              refine go_iload hC dX2_contracted_49 rfl ?_
              refine go_aald hC rfl (fun _ => rfl) (by first | decide | (show _ < 5; omega) | (show _ < 10; omega) | omega) (gm_in rfl (by omega) (by decide)) (gm_cl5 rfl (by omega)) dX2_contracted_51 ?_
              refine go_astore hC dX2_contracted_52 (Nat.le_of_ble_eq_true rfl) ?_
              simp only [gm_s0, gm_s1]
              refine go_iload_n hC dX2_contracted_54 rfl ?_
              refine go_aload hC dX2_contracted_55 rfl ?_
              refine go_geti (ci := 0) hC 4 kwX2_contracted_0 rfl rfl (by decide) rfl lkX2_contracted_84 (by first | decide | (show _ < 5; omega) | (show _ < 10; omega) | omega) dX2_contracted_57 ?_
              refine go_aload hC dX2_contracted_60 rfl ?_
              refine go_geti (ci := 0) hC 5 kwX2_contracted_0 rfl rfl (by decide) rfl lkX2_contracted_89 (by first | decide | (show _ < 5; omega) | (show _ < 10; omega) | omega) dX2_contracted_62 ?_
              refine go_iadd hC dX2_contracted_65 ?_
              refine go_iadd hC dX2_contracted_66 ?_
              refine go_istore_n hC 1 dX2_contracted_67 rfl (Nat.le_of_ble_eq_true rfl) ?_
              simp only [gm_s0, gm_s1]
              refine go_iinc (v := 1) hC dX2_contracted_68 rfl (by decide) ?_
              simp only [gm_s0, gm_s1]
              refine go_goto hC 40 dX2_contracted_71 (by decide) ?_
              rw [nI_1]
              refine go_sub ihi ?_
              repeat (first | exact gm_le_nil | refine gm_le_c ?_ | refine gm_le_n ?_)
        try dsimp only at lp40
        exact lp40
  try dsimp only at lp13
  refine go_iconst (v := 0) hC dX2_contracted_0 (by decide) ?_
  refine go_istore_n hC 1 dX2_contracted_1 rfl (Nat.le_of_ble_eq_true rfl) ?_
  simp only [gm_s0, gm_s1]
  refine go_aload_n hC dX2_contracted_2 rfl ?_
  refine go_getr (ci := 2) hC 0 kwX2_contracted_2 rfl rfl (by decide) rfl lkX2_contracted_11 (by first | decide | (show _ < 5; omega) | (show _ < 10; omega) | omega) dX2_contracted_3 ?_
  refine go_astore_n hC 2 dX2_contracted_6 rfl (Nat.le_of_ble_eq_true rfl) ?_
  simp only [gm_s0, gm_s1]
  refine go_aload_n hC dX2_contracted_7 rfl ?_
  refine go_alenr (v := 5) hC rfl (fun _ => rfl) (by first | decide | (show _ < 5; omega) | (show _ < 10; omega) | omega) (by decide) dX2_contracted_8 ?_
  refine go_istore_n hC 3 dX2_contracted_9 rfl (Nat.le_of_ble_eq_true rfl) ?_
  simp only [gm_s0, gm_s1]
  refine go_iconst (v := 0) hC dX2_contracted_10 (by decide) ?_
  refine go_istore hC dX2_contracted_11 (Nat.le_of_ble_eq_true rfl) ?_
  simp only [gm_s0, gm_s1]
  exact lp13
def dkF (M : gm_M) (o : Nat) : gm_M := if M 2 7 0 + 1 < 3 then gm_up M 2 7 0 (M 2 7 0 + 1) else if M 4 o 0 = 0 then gm_up (gm_up (gm_up M 2 7 0 (M 2 7 0 + 1)) 2 6 0 (nI o)) 2 7 0 0 else gm_up M 2 7 0 (M 2 7 0 + 1)
theorem kwX2_passDark_2 : ∀ w ∈ wsX20, w ∈ wsX2_passDark := by decide +kernel
theorem lkX2_passDark_15 : Cond.fieldLink RX2 15 "SharedFibre" "cut" "[Z" ∈ wsX2_passDark := by decide +kernel
theorem lkX2_passDark_146 : Cond.fieldLink RX2 146 "SharedFibre" "active" "I" ∈ wsX2_passDark := by decide +kernel
theorem lkX2_passDark_152 : Cond.fieldLink RX2 152 "SharedFibre" "darkInRow" "I" ∈ wsX2_passDark := by decide +kernel
set_option maxHeartbeats 4000000 in
set_option maxRecDepth 100000 in
/-- passDark -/
theorem c_X2_passDark (M : gm_M) (o : Nat) (ho : M 2 6 0 = nI o) (hoo : o ≤ 1) : KC lyC yX2_passDark wsX2_passDark ({ frames := 0, cells := 0, slots := 0, locals := 0 }) (fun ad => [.ref (ad 2 0)]) M (fun _ => none) (dkF M (1 - o)) := by
  refine KC.of_v (by decide) rfl rfl (fun _ => by simp) (fun _ => by simp [Value.category])  ?_
  intro X hC hR hX hE
  simp only [List.map_cons, List.map_nil, List.cons_append, List.nil_append, List.length_cons, List.length_nil, List.replicate, Nat.reduceAdd, Nat.reduceSub]
  refine go_aload_n hC dX2_passDark_0 rfl ?_
  refine go_dup hC dX2_passDark_1 rfl ?_
  refine go_geti (ci := 2) hC 7 kwX2_passDark_2 rfl rfl (by decide) rfl lkX2_passDark_152 (by first | decide | (show _ < 5; omega) | (show _ < 10; omega) | omega) dX2_passDark_2 ?_
  refine go_iconst (v := 1) hC dX2_passDark_5 (by decide) ?_
  refine go_iadd hC dX2_passDark_6 ?_
  refine go_puti (ci := 2) hC 7 kwX2_passDark_2 rfl tyX2 tyX2_ok nmX2 rfl (by decide) rfl lkX2_passDark_152 (by first | decide | (show _ < 5; omega) | (show _ < 10; omega) | omega) rfl rfl rfl dX2_passDark_7 ?_
  refine go_iconst (v := 1) hC dX2_passDark_10 (by decide) ?_
  refine go_aload_n hC dX2_passDark_11 rfl ?_
  refine go_geti (ci := 2) hC 6 kwX2_passDark_2 rfl rfl (by decide) rfl lkX2_passDark_146 (by first | decide | (show _ < 5; omega) | (show _ < 10; omega) | omega) dX2_passDark_12 ?_
  refine go_isub hC dX2_passDark_15 ?_
  refine go_istore_n hC 1 dX2_passDark_16 rfl (Nat.le_of_ble_eq_true rfl) ?_
  simp only [gm_s0, gm_s1]
  rw [show (1 : Int32) - gm_up M 2 7 0 (M 2 7 0 + 1) 2 6 0 = nI (1 - o) by rw [gm_un2 (by decide), ho]; exact pk_sub (a := 1) hoo]
  refine go_aload_n hC dX2_passDark_17 rfl ?_
  refine go_geti (ci := 2) hC 7 kwX2_passDark_2 rfl rfl (by decide) rfl lkX2_passDark_152 (by first | decide | (show _ < 5; omega) | (show _ < 10; omega) | omega) dX2_passDark_18 ?_
  refine go_iconst (v := 3) hC dX2_passDark_21 (by decide) ?_
  refine go_icmp_lt hC 44 dX2_passDark_22 (by decide) (fun h22 => ?_) (fun h22 => ?_)
  ·
    rw [gm_us] at h22
    refine go_cast ?_ ?_ (hE _ _ dX2_passDark_44)
    · first | rfl | (simp [*, dkF]; done) | (simp [*, dkF, gm_us, gm_un1, gm_un2]; done)
    · first | rfl | (simp [*, dkF]; done) | (simp [*, dkF, gm_us, gm_un1, gm_un2]; done)
  ·
    rw [gm_us] at h22
    refine go_aload_n hC dX2_passDark_25 rfl ?_
    refine go_getr (ci := 2) hC 1 kwX2_passDark_2 rfl rfl (by decide) rfl lkX2_passDark_15 (by first | decide | (show _ < 5; omega) | (show _ < 10; omega) | omega) dX2_passDark_26 ?_
    refine go_iload_n hC dX2_passDark_29 rfl ?_
    refine go_zald hC rfl (by first | decide | (show _ < 5; omega) | (show _ < 10; omega) | omega) (gm_in rfl (by omega) (by decide)) (gm_cl rfl (by omega)) dX2_passDark_30 ?_
    refine go_if_ne hC 44 dX2_passDark_31 (by decide) (fun h31 => ?_) (fun h31 => ?_)
    ·
      rw [gm_un1 (by decide)] at h31
      refine go_cast ?_ ?_ (hE _ _ dX2_passDark_44)
      · first | rfl | (simp [*, dkF]; done) | (simp [*, dkF, gm_us, gm_un1, gm_un2]; done)
      · first | rfl | (simp [*, dkF]; done) | (simp [*, dkF, gm_us, gm_un1, gm_un2]; done)
    ·
      rw [gm_un1 (by decide)] at h31
      refine go_aload_n hC dX2_passDark_34 rfl ?_
      refine go_iload_n hC dX2_passDark_35 rfl ?_
      refine go_puti (ci := 2) hC 6 kwX2_passDark_2 rfl tyX2 tyX2_ok nmX2 rfl (by decide) rfl lkX2_passDark_146 (by first | decide | (show _ < 5; omega) | (show _ < 10; omega) | omega) rfl rfl rfl dX2_passDark_36 ?_
      refine go_aload_n hC dX2_passDark_39 rfl ?_
      refine go_iconst (v := 0) hC dX2_passDark_40 (by decide) ?_
      refine go_puti (ci := 2) hC 7 kwX2_passDark_2 rfl tyX2 tyX2_ok nmX2 rfl (by decide) rfl lkX2_passDark_152 (by first | decide | (show _ < 5; omega) | (show _ < 10; omega) | omega) rfl rfl rfl dX2_passDark_41 ?_
      refine go_cast ?_ ?_ (hE _ _ dX2_passDark_44)
      · first | rfl | (simp [*, dkF]; done) | (simp [*, dkF, gm_us, gm_un1, gm_un2]; done)
      · first | rfl | (simp [*, dkF]; done) | (simp [*, dkF, gm_us, gm_un1, gm_un2]; done)
