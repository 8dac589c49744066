/-! ===== the class: the fibre (5): the map ===== -/
abbrev nW (M : gm_M) (c : Nat) : Prop := M 1 1 (c / 2) = 2 ∧ ¬ M 0 6 c ≤ M 0 9 c ∧ ¬ M 0 8 c ≤ M 0 9 c
abbrev nL (M : gm_M) (c b : Nat) : Prop := ¬ M 0 10 b * M 0 7 c ≤ M 0 10 c * M 0 7 b
def ntgF (M : gm_M) : Nat → Option Nat
  | 0 => none
  | c + 1 => match ntgF M c with
    | none => if nW M c then some c else none
    | some b => if nW M c ∧ nL M c b then some c else some b
theorem ntg_A {M : gm_M} {c : Nat} (h : ¬ nW M c) : ntgF M (c + 1) = ntgF M c := by
  cases ho : ntgF M c with
  | none => simp only [ntgF, ho]; exact if_neg h
  | some b => simp only [ntgF, ho]; exact if_neg (fun q => h q.1)
theorem ntg_B {M : gm_M} {c : Nat} (ho : ntgF M c = none) (h : nW M c) : ntgF M (c + 1) = some c := by
  simp only [ntgF, ho]; exact if_pos h
theorem ntg_C {M : gm_M} {c b : Nat} (ho : ntgF M c = some b) (h : nW M c) (hl : nL M c b) : ntgF M (c + 1) = some c := by
  simp only [ntgF, ho]; exact if_pos ⟨h, hl⟩
theorem ntg_D {M : gm_M} {c b : Nat} (ho : ntgF M c = some b) (hl : ¬ nL M c b) : ntgF M (c + 1) = some b := by
  simp only [ntgF, ho]; exact if_neg (fun q => hl q.2)
theorem ntg_lt {M : gm_M} : ∀ {c b : Nat}, ntgF M c = some b → b < c
  | 0, b, h => by cases h
  | c + 1, b, h => by
    cases ho : ntgF M c with
    | none =>
      simp only [ntgF, ho] at h
      split at h
      · cases h; omega
      · cases h
    | some b' =>
      have h1 := ntg_lt ho
      simp only [ntgF, ho] at h
      split at h
      · cases h; omega
      · cases h; omega
theorem ntg_skip {M : gm_M} {j : Nat} (h : ¬ M 1 1 j = 2) : ntgF M (2 * (j + 1)) = ntgF M (2 * j) := by
  have e1 : ntgF M (2 * j + 1) = ntgF M (2 * j) := ntg_A (fun q => h (by have := q.1; rwa [show 2 * j / 2 = j by omega] at this))
  have e2 : ntgF M (2 * j + 1 + 1) = ntgF M (2 * j + 1) := ntg_A (fun q => h (by have := q.1; rwa [show (2 * j + 1) / 2 = j by omega] at this))
  exact e2.trans e1
theorem kwX2_nextToGive_1 : ∀ w ∈ wsX10, w ∈ wsX2_nextToGive := by decide +kernel
theorem kwX2_nextToGive_2 : ∀ w ∈ wsX20, w ∈ wsX2_nextToGive := by decide +kernel
theorem lkX2_nextToGive_11 : Cond.fieldLink RX2 11 "SharedFibre" "units" "[LSharedFibre$Unit;" ∈ wsX2_nextToGive := by decide +kernel
theorem lkX2_nextToGive_58 : Cond.fieldLink RX2 58 "SharedFibre$Unit" "state" "I" ∈ wsX2_nextToGive := by decide +kernel
theorem lkX2_nextToGive_240 : Cond.fieldLink RX2 240 "SharedFibre$Unit" "containers" "[LSharedFibre$Container;" ∈ wsX2_nextToGive := by decide +kernel
set_option maxHeartbeats 4000000 in
set_option maxRecDepth 100000 in
/-- nextToGive -/
theorem c_X2_nextToGive (M : gm_M) : KC lyC yX2_nextToGive wsX2_nextToGive ({ frames := 1, cells := 0, slots := 0, locals := 21 }) (fun ad => [.ref (ad 2 0)]) M (fun ad => some (ntV ad (ntgF M 10))) (M) := by
  refine KC.of_a (by decide) rfl rfl (fun _ => by simp) (fun _ => by simp [Value.category]) (rv := fun ad => ntV ad (ntgF M 10)) (fun ad => ntV_ok ad _) ?_
  intro X hC hR hX hE
  simp only [List.map_cons, List.map_nil, List.cons_append, List.nil_append, List.length_cons, List.length_nil, List.replicate, Nat.reduceAdd, Nat.reduceSub]
  have lp13 : (fun j : Nat => GO lyC X 0 0 13 [some (.ref (gm_ad X 2 0)), some (ntV (gm_ad X) (ntgF M (2 * j))), some (.ref (gm_ad X 3 0)), some (.int 5), some (.int (nI j)), none, none, none, none, none] [] M) 0 := by
    refine loopN (5) (fun j : Nat => GO lyC X 0 0 13 [some (.ref (gm_ad X 2 0)), some (ntV (gm_ad X) (ntgF M (2 * j))), some (.ref (gm_ad X 3 0)), some (.int 5), some (.int (nI j)), none, none, none, none, none] [] M) ?_ (fun j hj ih => ?_)
    · try dsimp only
      refine go_iload hC dX2_nextToGive_13 rfl ?_
      refine go_iload_n hC dX2_nextToGive_15 rfl ?_
      refine go_icmp_ge hC 99 dX2_nextToGive_16 (by decide) (fun h16 => ?_) (fun h16 => ?_)
      ·
        refine go_aload_nA hC (ntV_ok _ _) dX2_nextToGive_99 rfl ?_
        refine go_cast ?_ ?_ (hE _ _ dX2_nextToGive_100)
        · first | rfl | (simp [*]; done) | (simp [*, gm_us, gm_un1, gm_un2]; done)
        · first | rfl | (simp [*]; done) | (simp [*, gm_us, gm_un1, gm_un2]; done)
      ·
        exact absurd (show nI 5 ≤ nI 5 from nI_le (Nat.le_refl _) (by decide)) h16
    · try dsimp only at ih ⊢
      refine go_iload hC dX2_nextToGive_13 rfl ?_
      refine go_iload_n hC dX2_nextToGive_15 rfl ?_
      refine go_icmp_ge hC 99 dX2_nextToGive_16 (by decide) (fun h16 => ?_) (fun h16 => ?_)
      ·
        exact absurd h16 (show ¬ nI 5 ≤ nI j from nI_ge hj (by decide))
      ·
        refine go_aload_n hC dX2_nextToGive_19 rfl ?_
        refine go_iload hC dX2_nextToGive_20 rfl ?_
        refine go_aald hC rfl (fun _ => rfl) (by first | decide | (show _ < 5; omega) | (show _ < 10; omega) | omega) (gm_in rfl (by omega) (by decide)) (gm_cu rfl (by omega)) dX2_nextToGive_22 ?_
        refine go_astore hC dX2_nextToGive_23 (Nat.le_of_ble_eq_true rfl) ?_
        simp only [gm_s0, gm_s1]
        refine go_aload hC dX2_nextToGive_25 rfl ?_
        refine go_geti (ci := 1) hC 1 kwX2_nextToGive_1 rfl rfl (by decide) rfl lkX2_nextToGive_58 (by first | decide | (show _ < 5; omega) | (show _ < 10; omega) | omega) dX2_nextToGive_27 ?_
        refine go_iconst (v := 2) hC dX2_nextToGive_30 (by decide) ?_
        refine go_icmp_ne hC 93 dX2_nextToGive_31 (by decide) (fun h31 => ?_) (fun h31 => ?_)
        ·
          refine go_iinc (v := 1) hC dX2_nextToGive_93 rfl (by decide) ?_
          simp only [gm_s0, gm_s1]
          refine go_goto hC 13 dX2_nextToGive_96 (by decide) ?_
          rw [nI_1]
          first | (rw [ntg_skip h31] at ih; refine go_sub ih ?_; (repeat (first | exact gm_le_nil | refine gm_le_c ?_ | refine gm_le_n ?_)); done) | (refine go_sub ih ?_; (repeat (first | exact gm_le_nil | refine gm_le_c ?_ | refine gm_le_n ?_)); done)
        ·
          refine go_aload hC dX2_nextToGive_34 rfl ?_
          refine go_getr (ci := 1) hC 0 kwX2_nextToGive_1 rfl rfl (by decide) rfl lkX2_nextToGive_240 (by first | decide | (show _ < 5; omega) | (show _ < 10; omega) | omega) dX2_nextToGive_36 ?_
          refine go_astore hC dX2_nextToGive_39 (Nat.le_of_ble_eq_true rfl) ?_
          simp only [gm_s0, gm_s1]
          refine go_aload hC dX2_nextToGive_41 rfl ?_
          refine go_alenr (v := 2) hC rfl (fun _ => rfl) (by first | decide | (show _ < 5; omega) | (show _ < 10; omega) | omega) (by decide) dX2_nextToGive_43 ?_
          refine go_istore hC dX2_nextToGive_44 (Nat.le_of_ble_eq_true rfl) ?_
          simp only [gm_s0, gm_s1]
          refine go_iconst (v := 0) hC dX2_nextToGive_46 (by decide) ?_
          refine go_istore hC dX2_nextToGive_47 (Nat.le_of_ble_eq_true rfl) ?_
          simp only [gm_s0, gm_s1]
          have lp49 : (fun i : Nat => GO lyC X 0 0 49 [some (.ref (gm_ad X 2 0)), some (ntV (gm_ad X) (ntgF M (2 * j + i))), some (.ref (gm_ad X 3 0)), some (.int 5), some (.int (nI j)), some (.ref (gm_ad X 1 j)), some (.ref (gm_ad X 9 j)), some (.int 2), some (.int (nI i)), none] [] M) 0 := by
            refine loopN (2) (fun i : Nat => GO lyC X 0 0 49 [some (.ref (gm_ad X 2 0)), some (ntV (gm_ad X) (ntgF M (2 * j + i))), some (.ref (gm_ad X 3 0)), some (.int 5), some (.int (nI j)), some (.ref (gm_ad X 1 j)), some (.ref (gm_ad X 9 j)), some (.int 2), some (.int (nI i)), none] [] M) ?_ (fun i hi ihi => ?_)
            · try dsimp only
              refine go_iload hC dX2_nextToGive_49 rfl ?_
              refine go_iload hC dX2_nextToGive_51 rfl ?_
              refine go_icmp_ge hC 93 dX2_nextToGive_53 (by decide) (fun h53 => ?_) (fun h53 => ?_)
              ·
                refine go_iinc (v := 1) hC dX2_nextToGive_93 rfl (by decide) ?_
                simp only [gm_s0, gm_s1]
                refine go_goto hC 13 dX2_nextToGive_96 (by decide) ?_
                rw [nI_1]
                first | (rw [ntg_skip h31] at ih; refine go_sub ih ?_; (repeat (first | exact gm_le_nil | refine gm_le_c ?_ | refine gm_le_n ?_)); done) | (refine go_sub ih ?_; (repeat (first | exact gm_le_nil | refine gm_le_c ?_ | refine gm_le_n ?_)); done)
              ·
                exact absurd (show nI 2 ≤ nI 2 from nI_le (Nat.le_refl _) (by decide)) h53
            · try dsimp only at ihi ⊢
              refine go_iload hC dX2_nextToGive_49 rfl ?_
              refine go_iload hC dX2_nextToGive_51 rfl ?_
              refine go_icmp_ge hC 93 dX2_nextToGive_53 (by decide) (fun h53 => ?_) (fun h53 => ?_)
              ·
                exact absurd h53 (show ¬ nI 2 ≤ nI i from nI_ge hi (by decide))
              ·
                refine go_aload hC dX2_nextToGive_56 rfl ?_
                refine go_iload hC dX2_nextToGive_58 rfl ?_
                refine go_aald hC rfl (fun _ => rfl) (by first | decide | (show _ < 5; omega) | (show _ < 10; omega) | omega) (gm_in rfl (by omega) (by decide)) (gm_cl5 rfl (by omega)) dX2_nextToGive_60 ?_
                refine go_astore hC dX2_nextToGive_61 (Nat.le_of_ble_eq_true rfl) ?_
                simp only [gm_s0, gm_s1]
                refine go_aload hC dX2_nextToGive_63 rfl ?_
                refine go_callV (n := 0) (k0 := 0) (n0 := 2 * j + i) hC hX (c_X0_wants _ _ (by omega)) gX2_nextToGive_X0_wants rfl (by decide +kernel) ⟨rfl, rfl⟩ (by rw [hR]; exact ⟨by decide, by decide⟩) (by rw [hR]; exact ⟨by decide, by decide⟩) rfl rfl rfl (by first | decide | (show _ < 5; omega) | (show _ < 10; omega) | omega) rfl rfl rfl (Nat.le_of_ble_eq_true rfl) dX2_nextToGive_65 ?_
                simp only [gm_r0, gm_r1]
                refine go_if_eq hC 87 dX2_nextToGive_68 (by decide) (fun h68 => ?_) (fun h68 => ?_)
                ·
                  have e49 : ntgF M (2 * j + (i + 1)) = ntgF M (2 * j + i) := ntg_A (fun q => absurd (h68.symm.trans (if_pos q.2)) (by decide))
                  refine go_iinc (v := 1) hC dX2_nextToGive_87 rfl (by decide) ?_
                  simp only [gm_s0, gm_s1]
                  refine go_goto hC 49 dX2_nextToGive_90 (by decide) ?_
                  rw [nI_1]
                  rw [e49] at ihi
                  refine go_sub ihi ?_
                  repeat (first | exact gm_le_nil | refine gm_le_c ?_ | refine gm_le_n ?_)
                ·
                  have hnw : nW M (2 * j + i) := ⟨by rw [show (2 * j + i) / 2 = j by omega]; exact h31, Classical.byContradiction (fun q => h68 (if_neg q))⟩
                  refine go_aload_nA hC (ntV_ok _ _) dX2_nextToGive_71 rfl ?_
                  refine go_ifnull hC 84 dX2_nextToGive_72 (by decide) (fun ho => ?_) (fun b ho => ?_)
                  ·
                    have e49 : ntgF M (2 * j + (i + 1)) = some (2 * j + i) := ntg_B ho hnw
                    refine go_aload hC dX2_nextToGive_84 rfl ?_
                    refine go_astore_n hC 1 dX2_nextToGive_86 rfl (Nat.le_of_ble_eq_true rfl) ?_
                    simp only [gm_s0, gm_s1]
                    refine go_iinc (v := 1) hC dX2_nextToGive_87 rfl (by decide) ?_
                    simp only [gm_s0, gm_s1]
                    refine go_goto hC 49 dX2_nextToGive_90 (by decide) ?_
                    rw [nI_1]
                    rw [e49] at ihi
                    refine go_sub ihi ?_
                    repeat (first | exact gm_le_nil | refine gm_le_c ?_ | refine gm_le_n ?_)
                  ·
                    have hb9 := ntg_lt ho
                    refine go_aload hC dX2_nextToGive_75 rfl ?_
                    refine go_aload_nA hC (ntV_ok _ _) dX2_nextToGive_77 rfl ?_
                    simp only [ho, ntV]
                    refine go_callV (n := 1) (k0 := 0) (n0 := 2 * j + i) hC hX (c_X0_hasLessSpareThan _ _ b (by omega) (by omega)) gX2_nextToGive_X0_hasLessSpareThan rfl (by decide +kernel) ⟨rfl, rfl⟩ (by rw [hR]; exact ⟨by decide, by decide⟩) (by rw [hR]; exact ⟨by decide, by decide⟩) rfl rfl rfl (by first | decide | (show _ < 5; omega) | (show _ < 10; omega) | omega) rfl rfl rfl (Nat.le_of_ble_eq_true rfl) dX2_nextToGive_78 ?_
                    simp only [gm_r0, gm_r1]
                    refine go_if_eq hC 87 dX2_nextToGive_81 (by decide) (fun h81 => ?_) (fun h81 => ?_)
                    ·
                      have e49 : ntgF M (2 * j + (i + 1)) = some b := ntg_D ho (fun q => absurd (h81.symm.trans (if_pos q)) (by decide))
                      refine go_iinc (v := 1) hC dX2_nextToGive_87 rfl (by decide) ?_
                      simp only [gm_s0, gm_s1]
                      refine go_goto hC 49 dX2_nextToGive_90 (by decide) ?_
                      rw [nI_1]
                      rw [e49] at ihi
                      refine go_sub ihi ?_
                      repeat (first | exact gm_le_nil | refine gm_le_c ?_ | refine gm_le_n ?_)
                    ·
                      have e49 : ntgF M (2 * j + (i + 1)) = some (2 * j + i) := ntg_C ho hnw (Classical.byContradiction (fun q => h81 (if_neg q)))
                      refine go_aload hC dX2_nextToGive_84 rfl ?_
                      refine go_astore_n hC 1 dX2_nextToGive_86 rfl (Nat.le_of_ble_eq_true rfl) ?_
                      simp only [gm_s0, gm_s1]
                      refine go_iinc (v := 1) hC dX2_nextToGive_87 rfl (by decide) ?_
                      simp only [gm_s0, gm_s1]
                      refine go_goto hC 49 dX2_nextToGive_90 (by decide) ?_
                      rw [nI_1]
                      rw [e49] at ihi
                      refine go_sub ihi ?_
                      repeat (first | exact gm_le_nil | refine gm_le_c ?_ | refine gm_le_n ?_)
          try dsimp only at lp49
          exact lp49
  try dsimp only at lp13
  refine go_null hC dX2_nextToGive_0 ?_
  refine go_astore_nA hC (Or.inl rfl) 1 dX2_nextToGive_1 rfl (Nat.le_of_ble_eq_true rfl) ?_
  simp only [gm_s0, gm_s1]
  refine go_aload_n hC dX2_nextToGive_2 rfl ?_
  refine go_getr (ci := 2) hC 0 kwX2_nextToGive_2 rfl rfl (by decide) rfl lkX2_nextToGive_11 (by first | decide | (show _ < 5; omega) | (show _ < 10; omega) | omega) dX2_nextToGive_3 ?_
  refine go_astore_n hC 2 dX2_nextToGive_6 rfl (Nat.le_of_ble_eq_true rfl) ?_
  simp only [gm_s0, gm_s1]
  refine go_aload_n hC dX2_nextToGive_7 rfl ?_
  refine go_alenr (v := 5) hC rfl (fun _ => rfl) (by first | decide | (show _ < 5; omega) | (show _ < 10; omega) | omega) (by decide) dX2_nextToGive_8 ?_
  refine go_istore_n hC 3 dX2_nextToGive_9 rfl (Nat.le_of_ble_eq_true rfl) ?_
  simp only [gm_s0, gm_s1]
  refine go_iconst (v := 0) hC dX2_nextToGive_10 (by decide) ?_
  refine go_istore hC dX2_nextToGive_11 (Nat.le_of_ble_eq_true rfl) ?_
  simp only [gm_s0, gm_s1]
  exact lp13
def gsF : Nat → gm_M → gm_M × Int32
  | 0, M => (M, 0)
  | d + 1, M => match ntgF M 10 with
    | none => (M, nI (d + 1))
    | some c => gsF d (gm_up (gm_up M 0 9 c (M 0 9 c + 1)) 0 10 c (M 0 10 c + 1))
theorem gs_n {d : Nat} {M : gm_M} (ho : ntgF M 10 = none) : gsF (d + 1) M = (M, nI (d + 1)) := by simp only [gsF, ho]
theorem gs_s {d c : Nat} {M : gm_M} (ho : ntgF M 10 = some c) : gsF (d + 1) M = gsF d (gm_up (gm_up M 0 9 c (M 0 9 c + 1)) 0 10 c (M 0 10 c + 1)) := by simp only [gsF, ho]
theorem kwX2_giveSpare_0 : ∀ w ∈ wsX00, w ∈ wsX2_giveSpare := by decide +kernel
theorem lkX2_giveSpare_212 : Cond.fieldLink RX2 212 "SharedFibre$Container" "given" "I" ∈ wsX2_giveSpare := by decide +kernel
theorem lkX2_giveSpare_264 : Cond.fieldLink RX2 264 "SharedFibre$Container" "spare" "I" ∈ wsX2_giveSpare := by decide +kernel
set_option maxHeartbeats 4000000 in
set_option maxRecDepth 100000 in
/-- giveSpare -/
theorem c_X2_giveSpare (M : gm_M) (b : Nat) (hb : b < 2 ^ 31) : KC lyC yX2_giveSpare wsX2_giveSpare ({ frames := 2, cells := 0, slots := 0, locals := 50 }) (fun ad => [.ref (ad 2 0), .int (nI b)]) M (fun _ => some (.int (gsF b M).2)) ((gsF b M).1) := by
  refine KC.of_i (by decide) rfl rfl (fun _ => by simp) (fun _ => by simp [Value.category])  ?_
  intro X hC hR hX hE
  simp only [List.map_cons, List.map_nil, List.cons_append, List.nil_append, List.length_cons, List.length_nil, List.replicate, Nat.reduceAdd, Nat.reduceSub]
  have lp2 : (fun j : Nat => ∀ M2 : gm_M, gsF (b - j) M2 = gsF b M → GO lyC X 0 0 2 [some (.ref (gm_ad X 2 0)), some (.int (nI b)), some (.int (nI (b - j))), none] [] M2) 0 := by
    refine loopN (b) (fun j : Nat => ∀ M2 : gm_M, gsF (b - j) M2 = gsF b M → GO lyC X 0 0 2 [some (.ref (gm_ad X 2 0)), some (.int (nI b)), some (.int (nI (b - j))), none] [] M2) ?_ (fun j hj ih => ?_)
    · try dsimp only
      intro M2 hg
      refine go_iload_n hC dX2_giveSpare_2 rfl ?_
      refine go_if_le hC 43 dX2_giveSpare_3 (by decide) (fun h3 => ?_) (fun h3 => ?_)
      ·
        refine go_iconst (v := 0) hC dX2_giveSpare_43 (by decide) ?_
        rw [Nat.sub_self] at hg
        rw [← hg] at hE
        exact hE _ _ dX2_giveSpare_44
      ·
        exact absurd (show nI (b - b) ≤ 0 by rw [Nat.sub_self]; decide) h3
    · try dsimp only at ih ⊢
      intro M2 hg
      obtain ⟨d9, hd9⟩ : ∃ d9, b - j = d9 + 1 := ⟨b - j - 1, by omega⟩
      refine go_iload_n hC dX2_giveSpare_2 rfl ?_
      refine go_if_le hC 43 dX2_giveSpare_3 (by decide) (fun h3 => ?_) (fun h3 => ?_)
      ·
        exact absurd h3 (by rw [hd9]; exact nI_nle (by omega) (by omega))
      ·
        refine go_aload_n hC dX2_giveSpare_6 rfl ?_
        refine go_callV (n := 0) (k0 := 2) (n0 := 0) hC hX (c_X2_nextToGive _) gX2_giveSpare_X2_nextToGive rfl (by decide +kernel) ⟨rfl, rfl⟩ (by rw [hR]; exact ⟨by decide, by decide⟩) (by rw [hR]; exact ⟨by decide, by decide⟩) rfl rfl rfl (by first | decide | (show _ < 5; omega) | (show _ < 10; omega) | omega) rfl rfl rfl (Nat.le_of_ble_eq_true rfl) dX2_giveSpare_7 ?_
        simp only [gm_r0, gm_r1]
        refine go_astore_nA hC (ntV_ok _ _) 3 dX2_giveSpare_10 rfl (Nat.le_of_ble_eq_true rfl) ?_
        simp only [gm_s0, gm_s1]
        refine go_aload_nA hC (ntV_ok _ _) dX2_giveSpare_11 rfl ?_
        refine go_ifnonnull hC 17 dX2_giveSpare_12 (by decide) (fun c ho => ?_) (fun ho => ?_)
        ·
          have hc9 := ntg_lt ho
          simp only [ho, ntV]
          refine go_aload_n hC dX2_giveSpare_17 rfl ?_
          refine go_dup hC dX2_giveSpare_18 rfl ?_
          refine go_geti (ci := 0) hC 9 kwX2_giveSpare_0 rfl rfl (by decide) rfl lkX2_giveSpare_212 (by first | decide | (show _ < 5; omega) | (show _ < 10; omega) | omega) dX2_giveSpare_19 ?_
          refine go_iconst (v := 1) hC dX2_giveSpare_22 (by decide) ?_
          refine go_iadd hC dX2_giveSpare_23 ?_
          refine go_puti (ci := 0) hC 9 kwX2_giveSpare_0 rfl tyX0 tyX0_ok nmX0 rfl (by decide) rfl lkX2_giveSpare_212 (by first | decide | (show _ < 5; omega) | (show _ < 10; omega) | omega) rfl rfl rfl dX2_giveSpare_24 ?_
          refine go_aload_n hC dX2_giveSpare_27 rfl ?_
          refine go_dup hC dX2_giveSpare_28 rfl ?_
          refine go_geti (ci := 0) hC 10 kwX2_giveSpare_0 rfl rfl (by decide) rfl lkX2_giveSpare_264 (by first | decide | (show _ < 5; omega) | (show _ < 10; omega) | omega) dX2_giveSpare_29 ?_
          refine go_iconst (v := 1) hC dX2_giveSpare_32 (by decide) ?_
          refine go_iadd hC dX2_giveSpare_33 ?_
          refine go_puti (ci := 0) hC 10 kwX2_giveSpare_0 rfl tyX0 tyX0_ok nmX0 rfl (by decide) rfl lkX2_giveSpare_264 (by first | decide | (show _ < 5; omega) | (show _ < 10; omega) | omega) rfl rfl rfl dX2_giveSpare_34 ?_
          refine go_iinc (v := (-1)) hC dX2_giveSpare_37 rfl (by decide) ?_
          simp only [gm_s0, gm_s1]
          refine go_goto hC 2 dX2_giveSpare_40 (by decide) ?_
          have ih2 := ih _ (show gsF (b - (j + 1)) (gm_up (gm_up M2 0 9 c (M2 0 9 c + 1)) 0 10 c (gm_up M2 0 9 c (M2 0 9 c + 1) 0 10 c + 1)) = _ by rw [gm_un2 (by decide), ← hg, hd9, show b - (j + 1) = d9 by omega, gs_s ho])
          rw [show nI (b - j) + (-1) = nI (b - (j + 1)) by rw [hd9, show b - (j + 1) = d9 by omega]; exact pk_m1 d9]
          refine go_sub ih2 ?_
          repeat (first | exact gm_le_nil | refine gm_le_c ?_ | refine gm_le_n ?_)

        ·
          refine go_iload_n hC dX2_giveSpare_15 rfl ?_
          rw [hd9, gs_n ho] at hg
          rw [← hg] at hE
          rw [hd9]
          exact hE _ _ dX2_giveSpare_16
  try dsimp only at lp2
  refine go_iload_n hC dX2_giveSpare_0 rfl ?_
  refine go_istore_n hC 2 dX2_giveSpare_1 rfl (Nat.le_of_ble_eq_true rfl) ?_
  simp only [gm_s0, gm_s1]
  exact lp2 M rfl
def mmI (j : Nat) (wv : Int32) : Nat → gm_M → gm_M := fun i M => cGive M (2 * j + i) wv
def mmU : Nat → gm_M → gm_M := fun j M => iter (mmI j (if M 1 1 j = 2 then 1 else 0)) 2 M
def mmLi (M : gm_M) (j : Nat) (wv l0 : Int32) : Nat → Int32
  | 0 => l0
  | i + 1 => mmLi M j wv l0 i - (iter (mmI j wv) (i + 1) M) 0 9 (2 * j + i)
def mmL (M : gm_M) : Nat → Int32
  | 0 => 60
  | j + 1 => mmLi (iter mmU j M) j (if iter mmU j M 1 1 j = 2 then 1 else 0) (if iter mmU j M 1 1 j = 2 then mmL M j + (-1) else mmL M j) 2
theorem mmL_s (M : gm_M) (j : Nat) : mmL M (j + 1) = mmLi (iter mmU j M) j (if iter mmU j M 1 1 j = 2 then 1 else 0) (if iter mmU j M 1 1 j = 2 then mmL M j + (-1) else mmL M j) 2 := rfl
theorem mmL_n {M : gm_M} {j : Nat} {b : Int32} (hb : b = if iter mmU j M 1 1 j = 2 then 1 else 0) (hc : ¬ iter mmU j M 1 1 j = 2) : mmL M (j + 1) = mmLi (iter mmU j M) j b (mmL M j) 2 := by
  rw [mmL_s, ← hb, if_neg hc]
theorem mmL_y {M : gm_M} {j : Nat} {b : Int32} (hb : b = if iter mmU j M 1 1 j = 2 then 1 else 0) (hc : iter mmU j M 1 1 j = 2) : mmL M (j + 1) = mmLi (iter mmU j M) j b (mmL M j + (-1)) 2 := by
  rw [mmL_s, ← hb, if_pos hc]
theorem mmU_s {M : gm_M} {j : Nat} {b : Int32} (hb : b = if iter mmU j M 1 1 j = 2 then 1 else 0) : iter (mmI j b) 2 (iter mmU j M) = iter mmU (j + 1) M := by
  rw [iter_s mmU j, hb]
  rfl
def mmF (M : gm_M) (b : Nat) : gm_M := gm_up (gsF b (iter mmU 5 M)).1 2 14 0 (gsF b (iter mmU 5 M)).2
theorem kwX2_makeMap_0 : ∀ w ∈ wsX00, w ∈ wsX2_makeMap := by decide +kernel
theorem kwX2_makeMap_1 : ∀ w ∈ wsX10, w ∈ wsX2_makeMap := by decide +kernel
theorem kwX2_makeMap_2 : ∀ w ∈ wsX20, w ∈ wsX2_makeMap := by decide +kernel
theorem lkX2_makeMap_11 : Cond.fieldLink RX2 11 "SharedFibre" "units" "[LSharedFibre$Unit;" ∈ wsX2_makeMap := by decide +kernel
theorem lkX2_makeMap_58 : Cond.fieldLink RX2 58 "SharedFibre$Unit" "state" "I" ∈ wsX2_makeMap := by decide +kernel
theorem lkX2_makeMap_212 : Cond.fieldLink RX2 212 "SharedFibre$Container" "given" "I" ∈ wsX2_makeMap := by decide +kernel
theorem lkX2_makeMap_226 : Cond.fieldLink RX2 226 "SharedFibre" "notGiven" "I" ∈ wsX2_makeMap := by decide +kernel
theorem lkX2_makeMap_240 : Cond.fieldLink RX2 240 "SharedFibre$Unit" "containers" "[LSharedFibre$Container;" ∈ wsX2_makeMap := by decide +kernel
set_option maxHeartbeats 4000000 in
set_option maxRecDepth 100000 in
/-- makeMap -/
theorem c_X2_makeMap (M : gm_M) (b : Nat) (hb : mmL M 5 = nI b) (hb31 : b < 2 ^ 31) : KC lyC yX2_makeMap wsX2_makeMap ({ frames := 3, cells := 0, slots := 0, locals := 73 }) (fun ad => [.ref (ad 2 0)]) M (fun _ => none) (mmF M b) := by
  refine KC.of_v (by decide) rfl rfl (fun _ => by simp) (fun _ => by simp [Value.category])  ?_
  intro X hC hR hX hE
  simp only [List.map_cons, List.map_nil, List.cons_append, List.nil_append, List.length_cons, List.length_nil, List.replicate, Nat.reduceAdd, Nat.reduceSub]
  have lp14 : (fun j : Nat => GO lyC X 0 0 14 [some (.ref (gm_ad X 2 0)), some (.int (mmL M j)), some (.ref (gm_ad X 3 0)), some (.int 5), some (.int (nI j)), none, none, none, none, none, none] [] (iter mmU j M)) 0 := by
    refine loopN (5) (fun j : Nat => GO lyC X 0 0 14 [some (.ref (gm_ad X 2 0)), some (.int (mmL M j)), some (.ref (gm_ad X 3 0)), some (.int 5), some (.int (nI j)), none, none, none, none, none, none] [] (iter mmU j M)) ?_ (fun j hj ih => ?_)
    · try dsimp only
      refine go_iload hC dX2_makeMap_14 rfl ?_
      refine go_iload_n hC dX2_makeMap_16 rfl ?_
      refine go_icmp_ge hC 106 dX2_makeMap_17 (by decide) (fun h17 => ?_) (fun h17 => ?_)
      ·
        refine go_aload_n hC dX2_makeMap_106 rfl ?_
        refine go_aload_n hC dX2_makeMap_107 rfl ?_
        refine go_iload_n hC dX2_makeMap_108 rfl ?_
        rw [hb]
        refine go_callV (n := 1) (k0 := 2) (n0 := 0) hC hX (c_X2_giveSpare _ b hb31) gX2_makeMap_X2_giveSpare rfl (by decide +kernel) ⟨rfl, rfl⟩ (by rw [hR]; exact ⟨by decide, by decide⟩) (by rw [hR]; exact ⟨by decide, by decide⟩) rfl rfl rfl (by first | decide | (show _ < 5; omega) | (show _ < 10; omega) | omega) rfl rfl rfl (Nat.le_of_ble_eq_true rfl) dX2_makeMap_109 ?_
        simp only [gm_r0, gm_r1]
        refine go_puti (ci := 2) hC 14 kwX2_makeMap_2 rfl tyX2 tyX2_ok nmX2 rfl (by decide) rfl lkX2_makeMap_226 (by first | decide | (show _ < 5; omega) | (show _ < 10; omega) | omega) rfl rfl rfl dX2_makeMap_112 ?_
        refine go_cast ?_ ?_ (hE _ _ dX2_makeMap_115)
        · first | rfl | (simp [*]; done) | (simp [*, gm_us, gm_un1, gm_un2]; done)
        · first | rfl | (simp [*]; done) | (simp [*, gm_us, gm_un1, gm_un2]; done)
      ·
        exact absurd (show nI 5 ≤ nI 5 from nI_le (Nat.le_refl _) (by decide)) h17
    · try dsimp only at ih ⊢
      refine go_iload hC dX2_makeMap_14 rfl ?_
      refine go_iload_n hC dX2_makeMap_16 rfl ?_
      refine go_icmp_ge hC 106 dX2_makeMap_17 (by decide) (fun h17 => ?_) (fun h17 => ?_)
      ·
        exact absurd h17 (show ¬ nI 5 ≤ nI j from nI_ge hj (by decide))
      ·
        refine go_aload_n hC dX2_makeMap_20 rfl ?_
        refine go_iload hC dX2_makeMap_21 rfl ?_
        refine go_aald hC rfl (fun _ => rfl) (by first | decide | (show _ < 5; omega) | (show _ < 10; omega) | omega) (gm_in rfl (by omega) (by decide)) (gm_cu rfl (by omega)) dX2_makeMap_23 ?_
        refine go_astore hC dX2_makeMap_24 (Nat.le_of_ble_eq_true rfl) ?_
        simp only [gm_s0, gm_s1]
        refine go_joinB (jpc := 40) (iter mmU j M 1 1 j = 2) ?_ (fun hj40 => ?_)
        · intro b40 hb40
          refine go_istore hC dX2_makeMap_40 (Nat.le_of_ble_eq_true rfl) ?_
          simp only [gm_s0, gm_s1]
          refine go_iload hC dX2_makeMap_42 rfl ?_
          refine go_if_eq hC 50 dX2_makeMap_44 (by decide) (fun h44 => ?_) (fun h44 => ?_)
          ·
            have hc : ¬ iter mmU j M 1 1 j = 2 := fun q => absurd (h44.symm.trans (hb40.trans (if_pos q))) (by decide)
            have e14 : mmL M (j + 1) = mmLi (iter mmU j M) j b40 (mmL M j) 2 := mmL_n hb40 hc
            refine go_aload hC dX2_makeMap_50 rfl ?_
            refine go_getr (ci := 1) hC 0 kwX2_makeMap_1 rfl rfl (by decide) rfl lkX2_makeMap_240 (by first | decide | (show _ < 5; omega) | (show _ < 10; omega) | omega) dX2_makeMap_52 ?_
            refine go_astore hC dX2_makeMap_55 (Nat.le_of_ble_eq_true rfl) ?_
            simp only [gm_s0, gm_s1]
            refine go_aload hC dX2_makeMap_57 rfl ?_
            refine go_alenr (v := 2) hC rfl (fun _ => rfl) (by first | decide | (show _ < 5; omega) | (show _ < 10; omega) | omega) (by decide) dX2_makeMap_59 ?_
            refine go_istore hC dX2_makeMap_60 (Nat.le_of_ble_eq_true rfl) ?_
            simp only [gm_s0, gm_s1]
            refine go_iconst (v := 0) hC dX2_makeMap_62 (by decide) ?_
            refine go_istore hC dX2_makeMap_63 (Nat.le_of_ble_eq_true rfl) ?_
            simp only [gm_s0, gm_s1]
            have lp65 : (fun i : Nat => GO lyC X 0 0 65 [some (.ref (gm_ad X 2 0)), some (.int (mmLi (iter mmU j M) j b40 (mmL M j) i)), some (.ref (gm_ad X 3 0)), some (.int 5), some (.int (nI j)), some (.ref (gm_ad X 1 j)), some (.int b40), some (.ref (gm_ad X 9 j)), some (.int 2), some (.int (nI i)), none] [] (iter (mmI j b40) i (iter mmU j M))) 0 := by
              refine loopN (2) (fun i : Nat => GO lyC X 0 0 65 [some (.ref (gm_ad X 2 0)), some (.int (mmLi (iter mmU j M) j b40 (mmL M j) i)), some (.ref (gm_ad X 3 0)), some (.int 5), some (.int (nI j)), some (.ref (gm_ad X 1 j)), some (.int b40), some (.ref (gm_ad X 9 j)), some (.int 2), some (.int (nI i)), none] [] (iter (mmI j b40) i (iter mmU j M))) ?_ (fun i hi ihi => ?_)
              · try dsimp only
                refine go_iload hC dX2_makeMap_65 rfl ?_
                refine go_iload hC dX2_makeMap_67 rfl ?_
                refine go_icmp_ge hC 100 dX2_makeMap_69 (by decide) (fun h69 => ?_) (fun h69 => ?_)
                ·
                  refine go_iinc (v := 1) hC dX2_makeMap_100 rfl (by decide) ?_
                  simp only [gm_s0, gm_s1]
                  refine go_goto hC 14 dX2_makeMap_103 (by decide) ?_
                  rw [nI_1]
                  rw [e14] at ih
                  refine go_sub (go_mem ?_ ih) ?_
                  · exact mmU_s hb40
                  repeat (first | exact gm_le_nil | refine gm_le_c ?_ | refine gm_le_n ?_)
                ·
                  exact absurd (show nI 2 ≤ nI 2 from nI_le (Nat.le_refl _) (by decide)) h69
              · try dsimp only at ihi ⊢
                refine go_iload hC dX2_makeMap_65 rfl ?_
                refine go_iload hC dX2_makeMap_67 rfl ?_
                refine go_icmp_ge hC 100 dX2_makeMap_69 (by decide) (fun h69 => ?_) (fun h69 => ?_)
                ·
                  exact absurd h69 (show ¬ nI 2 ≤ nI i from nI_ge hi (by decide))
                ·
                  refine go_aload hC dX2_makeMap_72 rfl ?_
                  refine go_iload hC dX2_makeMap_74 rfl ?_
                  refine go_aald hC rfl (fun _ => rfl) (by first | decide | (show _ < 5; omega) | (show _ < 10; omega) | omega) (gm_in rfl (by omega) (by decide)) (gm_cl5 rfl (by omega)) dX2_makeMap_76 ?_
                  refine go_astore hC dX2_makeMap_77 (Nat.le_of_ble_eq_true rfl) ?_
                  simp only [gm_s0, gm_s1]
                  refine go_aload hC dX2_makeMap_79 rfl ?_
                  refine go_iload hC dX2_makeMap_81 rfl ?_
                  refine go_callV (n := 1) (k0 := 0) (n0 := 2 * j + i) hC hX (c_X0_giveContracted _ _ (by omega) _) gX2_makeMap_X0_giveContracted rfl (by decide +kernel) ⟨rfl, rfl⟩ (by rw [hR]; exact ⟨by decide, by decide⟩) (by rw [hR]; exact ⟨by decide, by decide⟩) rfl rfl rfl (by first | decide | (show _ < 5; omega) | (show _ < 10; omega) | omega) rfl rfl rfl (Nat.le_of_ble_eq_true rfl) dX2_makeMap_83 ?_
                  simp only [gm_r0, gm_r1]
                  refine go_iload_n hC dX2_makeMap_86 rfl ?_
                  refine go_aload hC dX2_makeMap_87 rfl ?_
                  refine go_geti (ci := 0) hC 9 kwX2_makeMap_0 rfl rfl (by decide) rfl lkX2_makeMap_212 (by first | decide | (show _ < 5; omega) | (show _ < 10; omega) | omega) dX2_makeMap_89 ?_
                  refine go_isub hC dX2_makeMap_92 ?_
                  refine go_istore_n hC 1 dX2_makeMap_93 rfl (Nat.le_of_ble_eq_true rfl) ?_
                  simp only [gm_s0, gm_s1]
                  refine go_iinc (v := 1) hC dX2_makeMap_94 rfl (by decide) ?_
                  simp only [gm_s0, gm_s1]
                  refine go_goto hC 65 dX2_makeMap_97 (by decide) ?_
                  rw [nI_1]
                  refine go_sub ihi ?_
                  repeat (first | exact gm_le_nil | refine gm_le_c ?_ | refine gm_le_n ?_)
            try dsimp only at lp65
            exact lp65
          ·
            have hc : iter mmU j M 1 1 j = 2 := Classical.byContradiction (fun q => h44 (hb40.trans (if_neg q)))
            have e14 : mmL M (j + 1) = mmLi (iter mmU j M) j b40 (mmL M j + (-1)) 2 := mmL_y hb40 hc
            refine go_iinc (v := (-1)) hC dX2_makeMap_47 rfl (by decide) ?_
            simp only [gm_s0, gm_s1]
            refine go_aload hC dX2_makeMap_50 rfl ?_
            refine go_getr (ci := 1) hC 0 kwX2_makeMap_1 rfl rfl (by decide) rfl lkX2_makeMap_240 (by first | decide | (show _ < 5; omega) | (show _ < 10; omega) | omega) dX2_makeMap_52 ?_
            refine go_astore hC dX2_makeMap_55 (Nat.le_of_ble_eq_true rfl) ?_
            simp only [gm_s0, gm_s1]
            refine go_aload hC dX2_makeMap_57 rfl ?_
            refine go_alenr (v := 2) hC rfl (fun _ => rfl) (by first | decide | (show _ < 5; omega) | (show _ < 10; omega) | omega) (by decide) dX2_makeMap_59 ?_
            refine go_istore hC dX2_makeMap_60 (Nat.le_of_ble_eq_true rfl) ?_
            simp only [gm_s0, gm_s1]
            refine go_iconst (v := 0) hC dX2_makeMap_62 (by decide) ?_
            refine go_istore hC dX2_makeMap_63 (Nat.le_of_ble_eq_true rfl) ?_
            simp only [gm_s0, gm_s1]
            have lp65 : (fun i : Nat => GO lyC X 0 0 65 [some (.ref (gm_ad X 2 0)), some (.int (mmLi (iter mmU j M) j b40 (mmL M j + (-1)) i)), some (.ref (gm_ad X 3 0)), some (.int 5), some (.int (nI j)), some (.ref (gm_ad X 1 j)), some (.int b40), some (.ref (gm_ad X 9 j)), some (.int 2), some (.int (nI i)), none] [] (iter (mmI j b40) i (iter mmU j M))) 0 := by
              refine loopN (2) (fun i : Nat => GO lyC X 0 0 65 [some (.ref (gm_ad X 2 0)), some (.int (mmLi (iter mmU j M) j b40 (mmL M j + (-1)) i)), some (.ref (gm_ad X 3 0)), some (.int 5), some (.int (nI j)), some (.ref (gm_ad X 1 j)), some (.int b40), some (.ref (gm_ad X 9 j)), some (.int 2), some (.int (nI i)), none] [] (iter (mmI j b40) i (iter mmU j M))) ?_ (fun i hi ihi => ?_)
              · try dsimp only
                refine go_iload hC dX2_makeMap_65 rfl ?_
                refine go_iload hC dX2_makeMap_67 rfl ?_
                refine go_icmp_ge hC 100 dX2_makeMap_69 (by decide) (fun h69 => ?_) (fun h69 => ?_)
                ·
                  refine go_iinc (v := 1) hC dX2_makeMap_100 rfl (by decide) ?_
                  simp only [gm_s0, gm_s1]
                  refine go_goto hC 14 dX2_makeMap_103 (by decide) ?_
                  rw [nI_1]
                  rw [e14] at ih
                  refine go_sub (go_mem ?_ ih) ?_
                  · exact mmU_s hb40
                  repeat (first | exact gm_le_nil | refine gm_le_c ?_ | refine gm_le_n ?_)
                ·
                  exact absurd (show nI 2 ≤ nI 2 from nI_le (Nat.le_refl _) (by decide)) h69
              · try dsimp only at ihi ⊢
                refine go_iload hC dX2_makeMap_65 rfl ?_
                refine go_iload hC dX2_makeMap_67 rfl ?_
                refine go_icmp_ge hC 100 dX2_makeMap_69 (by decide) (fun h69 => ?_) (fun h69 => ?_)
                ·
                  exact absurd h69 (show ¬ nI 2 ≤ nI i from nI_ge hi (by decide))
                ·
                  refine go_aload hC dX2_makeMap_72 rfl ?_
                  refine go_iload hC dX2_makeMap_74 rfl ?_
                  refine go_aald hC rfl (fun _ => rfl) (by first | decide | (show _ < 5; omega) | (show _ < 10; omega) | omega) (gm_in rfl (by omega) (by decide)) (gm_cl5 rfl (by omega)) dX2_makeMap_76 ?_
                  refine go_astore hC dX2_makeMap_77 (Nat.le_of_ble_eq_true rfl) ?_
                  simp only [gm_s0, gm_s1]
                  refine go_aload hC dX2_makeMap_79 rfl ?_
                  refine go_iload hC dX2_makeMap_81 rfl ?_
                  refine go_callV (n := 1) (k0 := 0) (n0 := 2 * j + i) hC hX (c_X0_giveContracted _ _ (by omega) _) gX2_makeMap_X0_giveContracted rfl (by decide +kernel) ⟨rfl, rfl⟩ (by rw [hR]; exact ⟨by decide, by decide⟩) (by rw [hR]; exact ⟨by decide, by decide⟩) rfl rfl rfl (by first | decide | (show _ < 5; omega) | (show _ < 10; omega) | omega) rfl rfl rfl (Nat.le_of_ble_eq_true rfl) dX2_makeMap_83 ?_
                  simp only [gm_r0, gm_r1]
                  refine go_iload_n hC dX2_makeMap_86 rfl ?_
                  refine go_aload hC dX2_makeMap_87 rfl ?_
                  refine go_geti (ci := 0) hC 9 kwX2_makeMap_0 rfl rfl (by decide) rfl lkX2_makeMap_212 (by first | decide | (show _ < 5; omega) | (show _ < 10; omega) | omega) dX2_makeMap_89 ?_
                  refine go_isub hC dX2_makeMap_92 ?_
                  refine go_istore_n hC 1 dX2_makeMap_93 rfl (Nat.le_of_ble_eq_true rfl) ?_
                  simp only [gm_s0, gm_s1]
                  refine go_iinc (v := 1) hC dX2_makeMap_94 rfl (by decide) ?_
                  simp only [gm_s0, gm_s1]
                  refine go_goto hC 65 dX2_makeMap_97 (by decide) ?_
                  rw [nI_1]
                  refine go_sub ihi ?_
                  repeat (first | exact gm_le_nil | refine gm_le_c ?_ | refine gm_le_n ?_)
            try dsimp only at lp65
            exact lp65
        ·
          refine go_aload hC dX2_makeMap_26 rfl ?_
          refine go_geti (ci := 1) hC 1 kwX2_makeMap_1 rfl rfl (by decide) rfl lkX2_makeMap_58 (by first | decide | (show _ < 5; omega) | (show _ < 10; omega) | omega) dX2_makeMap_28 ?_
          refine go_iconst (v := 2) hC dX2_makeMap_31 (by decide) ?_
          refine go_icmp_ne hC 39 dX2_makeMap_32 (by decide) (fun h32 => ?_) (fun h32 => ?_)
          ·
            refine go_iconst (v := 0) hC dX2_makeMap_39 (by decide) ?_
            exact hj40 _ (by first | exact (if_pos h32).symm | exact (if_neg h32).symm)
          ·
            refine go_iconst (v := 1) hC dX2_makeMap_35 (by decide) ?_
            refine go_goto hC 40 dX2_makeMap_36 (by decide) ?_
            exact hj40 _ (by first | exact (if_pos h32).symm | exact (if_neg h32).symm)
  try dsimp only at lp14
  refine go_bipush (v := 60) hC dX2_makeMap_0 (by decide) ?_
  refine go_istore_n hC 1 dX2_makeMap_2 rfl (Nat.le_of_ble_eq_true rfl) ?_
  simp only [gm_s0, gm_s1]
  refine go_aload_n hC dX2_makeMap_3 rfl ?_
  refine go_getr (ci := 2) hC 0 kwX2_makeMap_2 rfl rfl (by decide) rfl lkX2_makeMap_11 (by first | decide | (show _ < 5; omega) | (show _ < 10; omega) | omega) dX2_makeMap_4 ?_
  refine go_astore_n hC 2 dX2_makeMap_7 rfl (Nat.le_of_ble_eq_true rfl) ?_
  simp only [gm_s0, gm_s1]
  refine go_aload_n hC dX2_makeMap_8 rfl ?_
  refine go_alenr (v := 5) hC rfl (fun _ => rfl) (by first | decide | (show _ < 5; omega) | (show _ < 10; omega) | omega) (by decide) dX2_makeMap_9 ?_
  refine go_istore_n hC 3 dX2_makeMap_10 rfl (Nat.le_of_ble_eq_true rfl) ?_
  simp only [gm_s0, gm_s1]
  refine go_iconst (v := 0) hC dX2_makeMap_11 (by decide) ?_
  refine go_istore hC dX2_makeMap_12 (Nat.le_of_ble_eq_true rfl) ?_
  simp only [gm_s0, gm_s1]
  exact lp14
