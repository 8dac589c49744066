/-! ===== the class: the fibre (4): bursts, meetings, notes, keys ===== -/
def lbLen (M : gm_M) (j : Nat) : Int32 := if M 1 1 j = 2 then lenP M j 2 else 0
def lbP (M : gm_M) : Nat → gm_M × Int32
  | 0 => (M, 0)
  | j + 1 => (gm_up (gm_up (lbP M j).1 7 j 0 ((lbP M j).2 + (lbP M j).1 1 5 j)) 8 j 0 (((lbP M j).2 + (lbP M j).1 1 5 j) + lbLen (lbP M j).1 j), if lbLen (lbP M j).1 j ≤ 0 then (lbP M j).2 else (lbP M j).2 + (lbLen (lbP M j).1 j + 32))
theorem kwX2_layBursts_1 : ∀ w ∈ wsX10, w ∈ wsX2_layBursts := by decide +kernel
theorem kwX2_layBursts_2 : ∀ w ∈ wsX20, w ∈ wsX2_layBursts := by decide +kernel
theorem lkX2_layBursts_11 : Cond.fieldLink RX2 11 "SharedFibre" "units" "[LSharedFibre$Unit;" ∈ wsX2_layBursts := by decide +kernel
theorem lkX2_layBursts_26 : Cond.fieldLink RX2 26 "SharedFibre" "burstStart" "[I" ∈ wsX2_layBursts := by decide +kernel
theorem lkX2_layBursts_29 : Cond.fieldLink RX2 29 "SharedFibre" "burstEnd" "[I" ∈ wsX2_layBursts := by decide +kernel
theorem lkX2_layBursts_58 : Cond.fieldLink RX2 58 "SharedFibre$Unit" "state" "I" ∈ wsX2_layBursts := by decide +kernel
theorem lkX2_layBursts_101 : Cond.fieldLink RX2 101 "SharedFibre$Unit" "error" "I" ∈ wsX2_layBursts := by decide +kernel
set_option maxHeartbeats 4000000 in
set_option maxRecDepth 100000 in
/-- layBursts -/
theorem c_X2_layBursts (M : gm_M) : KC lyC yX2_layBursts wsX2_layBursts ({ frames := 1, cells := 0, slots := 0, locals := 25 }) (fun ad => [.ref (ad 2 0)]) M (fun _ => none) ((lbP M 5).1) := by
  refine KC.of_v (by decide) rfl rfl (fun _ => by simp) (fun _ => by simp [Value.category])  ?_
  intro X hC hR hX hE
  simp only [List.map_cons, List.map_nil, List.cons_append, List.nil_append, List.length_cons, List.length_nil, List.replicate, Nat.reduceAdd, Nat.reduceSub]
  have lp4 : (fun j : Nat => GO lyC X 0 0 4 [some (.ref (gm_ad X 2 0)), some (.int (lbP M j).2), some (.int (nI j)), none, none] [] (lbP M j).1) 0 := by
    refine loopN (5) (fun j : Nat => GO lyC X 0 0 4 [some (.ref (gm_ad X 2 0)), some (.int (lbP M j).2), some (.int (nI j)), none, none] [] (lbP M j).1) ?_ (fun j hj ih => ?_)
    · try dsimp only
      refine go_iload_n hC dX2_layBursts_4 rfl ?_
      refine go_iconst (v := 5) hC dX2_layBursts_5 (by decide) ?_
      refine go_icmp_ge hC 80 dX2_layBursts_6 (by decide) (fun h6 => ?_) (fun h6 => ?_)
      ·
        refine go_cast ?_ ?_ (hE _ _ dX2_layBursts_80)
        · first | rfl | (simp [*]; done) | (simp [*, gm_us, gm_un1, gm_un2]; done)
        · first | rfl | (simp [*]; done) | (simp [*, gm_us, gm_un1, gm_un2]; done)
      ·
        exact absurd (show nI 5 ≤ nI 5 from nI_le (Nat.le_refl _) (by decide)) h6
    · try dsimp only at ih ⊢
      refine go_iload_n hC dX2_layBursts_4 rfl ?_
      refine go_iconst (v := 5) hC dX2_layBursts_5 (by decide) ?_
      refine go_icmp_ge hC 80 dX2_layBursts_6 (by decide) (fun h6 => ?_) (fun h6 => ?_)
      ·
        exact absurd h6 (show ¬ nI 5 ≤ nI j from nI_ge hj (by decide))
      ·
        refine go_aload_n hC dX2_layBursts_9 rfl ?_
        refine go_getr (ci := 2) hC 0 kwX2_layBursts_2 rfl rfl (by decide) rfl lkX2_layBursts_11 (by first | decide | (show _ < 5; omega) | (show _ < 10; omega) | omega) dX2_layBursts_10 ?_
        refine go_iload_n hC dX2_layBursts_13 rfl ?_
        refine go_aald hC rfl (fun _ => rfl) (by first | decide | (show _ < 5; omega) | (show _ < 10; omega) | omega) (gm_in rfl (by omega) (by decide)) (gm_cu rfl (by omega)) dX2_layBursts_14 ?_
        refine go_astore_n hC 3 dX2_layBursts_15 rfl (Nat.le_of_ble_eq_true rfl) ?_
        simp only [gm_s0, gm_s1]
        refine go_joinI (jpc := 32) (lbLen (lbP M j).1 j) ?_ (fun hj32 => ?_)
        ·
          refine go_istore hC dX2_layBursts_32 (Nat.le_of_ble_eq_true rfl) ?_
          simp only [gm_s0, gm_s1]
          refine go_aload_n hC dX2_layBursts_34 rfl ?_
          refine go_getr (ci := 2) hC 4 kwX2_layBursts_2 rfl rfl (by decide) rfl lkX2_layBursts_26 (by first | decide | (show _ < 5; omega) | (show _ < 10; omega) | omega) dX2_layBursts_35 ?_
          refine go_iload_n hC dX2_layBursts_38 rfl ?_
          refine go_iload_n hC dX2_layBursts_39 rfl ?_
          refine go_aload_n hC dX2_layBursts_40 rfl ?_
          refine go_geti (ci := 1) hC 5 kwX2_layBursts_1 rfl rfl (by decide) rfl lkX2_layBursts_101 (by first | decide | (show _ < 5; omega) | (show _ < 10; omega) | omega) dX2_layBursts_41 ?_
          refine go_iadd hC dX2_layBursts_44 ?_
          refine go_iast hC rfl (by first | decide | (show _ < 5; omega) | (show _ < 10; omega) | omega) (gm_in rfl (by omega) (by decide)) (gm_cl rfl (by omega)) dX2_layBursts_45 ?_
          refine go_aload_n hC dX2_layBursts_46 rfl ?_
          refine go_getr (ci := 2) hC 5 kwX2_layBursts_2 rfl rfl (by decide) rfl lkX2_layBursts_29 (by first | decide | (show _ < 5; omega) | (show _ < 10; omega) | omega) dX2_layBursts_47 ?_
          refine go_iload_n hC dX2_layBursts_50 rfl ?_
          refine go_aload_n hC dX2_layBursts_51 rfl ?_
          refine go_getr (ci := 2) hC 4 kwX2_layBursts_2 rfl rfl (by decide) rfl lkX2_layBursts_26 (by first | decide | (show _ < 5; omega) | (show _ < 10; omega) | omega) dX2_layBursts_52 ?_
          refine go_iload_n hC dX2_layBursts_55 rfl ?_
          refine go_iald hC rfl (by first | decide | (show _ < 5; omega) | (show _ < 10; omega) | omega) (gm_in (n := j) rfl (by omega) (by decide)) (gm_cl (n := j) rfl (by omega)) dX2_layBursts_56 ?_
          rw [gm_us]
          refine go_iload hC dX2_layBursts_57 rfl ?_
          refine go_iadd hC dX2_layBursts_59 ?_
          refine go_iast hC rfl (by first | decide | (show _ < 5; omega) | (show _ < 10; omega) | omega) (gm_in rfl (by omega) (by decide)) (gm_cl rfl (by omega)) dX2_layBursts_60 ?_
          refine go_iload hC dX2_layBursts_61 rfl ?_
          refine go_if_le hC 74 dX2_layBursts_63 (by decide) (fun h63 => ?_) (fun h63 => ?_)
          ·
            have e63 : (lbP M (j + 1)).2 = (lbP M j).2 := if_pos h63
            refine go_iinc (v := 1) hC dX2_layBursts_74 rfl (by decide) ?_
            simp only [gm_s0, gm_s1]
            refine go_goto hC 4 dX2_layBursts_77 (by decide) ?_
            rw [nI_1]
            rw [e63] at ih
            refine go_sub ih ?_
            repeat (first | exact gm_le_nil | refine gm_le_c ?_ | refine gm_le_n ?_)
          ·
            have e63 : (lbP M (j + 1)).2 = (lbP M j).2 + (lbLen (lbP M j).1 j + 32) := if_neg h63
            refine go_iload_n hC dX2_layBursts_66 rfl ?_
            refine go_iload hC dX2_layBursts_67 rfl ?_
            refine go_bipush (v := 32) hC dX2_layBursts_69 (by decide) ?_
            refine go_iadd hC dX2_layBursts_71 ?_
            refine go_iadd hC dX2_layBursts_72 ?_
            refine go_istore_n hC 1 dX2_layBursts_73 rfl (Nat.le_of_ble_eq_true rfl) ?_
            simp only [gm_s0, gm_s1]
            refine go_iinc (v := 1) hC dX2_layBursts_74 rfl (by decide) ?_
            simp only [gm_s0, gm_s1]
            refine go_goto hC 4 dX2_layBursts_77 (by decide) ?_
            rw [nI_1]
            rw [e63] at ih
            refine go_sub ih ?_
            repeat (first | exact gm_le_nil | refine gm_le_c ?_ | refine gm_le_n ?_)
        ·
          refine go_aload_n hC dX2_layBursts_16 rfl ?_
          refine go_geti (ci := 1) hC 1 kwX2_layBursts_1 rfl rfl (by decide) rfl lkX2_layBursts_58 (by first | decide | (show _ < 5; omega) | (show _ < 10; omega) | omega) dX2_layBursts_17 ?_
          refine go_iconst (v := 2) hC dX2_layBursts_20 (by decide) ?_
          refine go_icmp_ne hC 31 dX2_layBursts_21 (by decide) (fun h21 => ?_) (fun h21 => ?_)
          ·
            refine go_iconst (v := 0) hC dX2_layBursts_31 (by decide) ?_
            refine go_cast ?_ rfl hj32
            first | (simp only [lbLen, if_pos h21]; done) | (simp only [lbLen, if_neg h21]; done)
          ·
            refine go_aload_n hC dX2_layBursts_24 rfl ?_
            refine go_callV (n := 0) (k0 := 1) (n0 := j) hC hX (c_X1_burstLength _ _ (by omega)) gX2_layBursts_X1_burstLength rfl (by decide +kernel) ⟨rfl, rfl⟩ (by rw [hR]; exact ⟨by decide, by decide⟩) (by rw [hR]; exact ⟨by decide, by decide⟩) rfl rfl rfl (by first | decide | (show _ < 5; omega) | (show _ < 10; omega) | omega) rfl rfl rfl (Nat.le_of_ble_eq_true rfl) dX2_layBursts_25 ?_
            simp only [gm_r0, gm_r1]
            refine go_goto hC 32 dX2_layBursts_28 (by decide) ?_
            refine go_cast ?_ rfl hj32
            first | (simp only [lbLen, if_pos h21]; done) | (simp only [lbLen, if_neg h21]; done)
  try dsimp only at lp4
  refine go_iconst (v := 0) hC dX2_layBursts_0 (by decide) ?_
  refine go_istore_n hC 1 dX2_layBursts_1 rfl (Nat.le_of_ble_eq_true rfl) ?_
  simp only [gm_s0, gm_s1]
  refine go_iconst (v := 0) hC dX2_layBursts_2 (by decide) ?_
  refine go_istore_n hC 2 dX2_layBursts_3 rfl (Nat.le_of_ble_eq_true rfl) ?_
  simp only [gm_s0, gm_s1]
  exact lp4
def cm1 (i j : Nat) (M : gm_M) : gm_M := if (if M 8 j 0 < M 8 i 0 then M 8 j 0 else M 8 i 0) ≤ (if M 7 i 0 < M 7 j 0 then M 7 j 0 else M 7 i 0) then M else gm_up M 2 13 0 (M 2 13 0 + 1)
def cm2 : Nat → gm_M → gm_M := fun i M => iter (fun d M => cm1 i (i + 1 + d) M) (4 - i) M
theorem kwX2_countMeetings_2 : ∀ w ∈ wsX20, w ∈ wsX2_countMeetings := by decide +kernel
theorem lkX2_countMeetings_26 : Cond.fieldLink RX2 26 "SharedFibre" "burstStart" "[I" ∈ wsX2_countMeetings := by decide +kernel
theorem lkX2_countMeetings_29 : Cond.fieldLink RX2 29 "SharedFibre" "burstEnd" "[I" ∈ wsX2_countMeetings := by decide +kernel
theorem lkX2_countMeetings_223 : Cond.fieldLink RX2 223 "SharedFibre" "met" "I" ∈ wsX2_countMeetings := by decide +kernel
theorem lmX2_countMeetings_max_c : Cond.code Lib.Math.max.name Lib.Math.max.code 2 (some .int) ∈ wsX2_countMeetings := by decide +kernel
theorem lmX2_countMeetings_max_i : Cond.initialized "java/lang/Math" ∈ wsX2_countMeetings := by decide +kernel
theorem lmX2_countMeetings_max_l : Cond.methodLink RX2 278 Lib.Math.max.name ∈ wsX2_countMeetings := by decide +kernel
theorem lmX2_countMeetings_max_s : Cond.static Lib.Math.max.name ∈ wsX2_countMeetings := by decide +kernel
theorem lmX2_countMeetings_min_c : Cond.code Lib.Math.min.name Lib.Math.min.code 2 (some .int) ∈ wsX2_countMeetings := by decide +kernel
theorem lmX2_countMeetings_min_i : Cond.initialized "java/lang/Math" ∈ wsX2_countMeetings := by decide +kernel
theorem lmX2_countMeetings_min_l : Cond.methodLink RX2 282 Lib.Math.min.name ∈ wsX2_countMeetings := by decide +kernel
theorem lmX2_countMeetings_min_s : Cond.static Lib.Math.min.name ∈ wsX2_countMeetings := by decide +kernel
set_option maxHeartbeats 4000000 in
set_option maxRecDepth 100000 in
/-- countMeetings -/
theorem c_X2_countMeetings (M : gm_M) : KC lyC yX2_countMeetings wsX2_countMeetings ({ frames := 1, cells := 0, slots := 0, locals := 21 }) (fun ad => [.ref (ad 2 0)]) M (fun _ => none) (iter cm2 5 M) := by
  refine KC.of_v (by decide) rfl rfl (fun _ => by simp) (fun _ => by simp [Value.category])  ?_
  intro X hC hR hX hE
  simp only [List.map_cons, List.map_nil, List.cons_append, List.nil_append, List.length_cons, List.length_nil, List.replicate, Nat.reduceAdd, Nat.reduceSub]
  have lp2 : (fun j : Nat => GO lyC X 0 0 2 [some (.ref (gm_ad X 2 0)), some (.int (nI j)), none] [] (iter cm2 j M)) 0 := by
    refine loopN (5) (fun j : Nat => GO lyC X 0 0 2 [some (.ref (gm_ad X 2 0)), some (.int (nI j)), none] [] (iter cm2 j M)) ?_ (fun j hj ih => ?_)
    · try dsimp only
      refine go_iload_n hC dX2_countMeetings_2 rfl ?_
      refine go_iconst (v := 5) hC dX2_countMeetings_3 (by decide) ?_
      refine go_icmp_ge hC 71 dX2_countMeetings_4 (by decide) (fun h4 => ?_) (fun h4 => ?_)
      ·
        refine go_cast ?_ ?_ (hE _ _ dX2_countMeetings_71)
        · first | rfl | (simp [*]; done) | (simp [*, gm_us, gm_un1, gm_un2]; done)
        · first | rfl | (simp [*]; done) | (simp [*, gm_us, gm_un1, gm_un2]; done)
      ·
        exact absurd (show nI 5 ≤ nI 5 from nI_le (Nat.le_refl _) (by decide)) h4
    · try dsimp only at ih ⊢
      refine go_iload_n hC dX2_countMeetings_2 rfl ?_
      refine go_iconst (v := 5) hC dX2_countMeetings_3 (by decide) ?_
      refine go_icmp_ge hC 71 dX2_countMeetings_4 (by decide) (fun h4 => ?_) (fun h4 => ?_)
      ·
        exact absurd h4 (show ¬ nI 5 ≤ nI j from nI_ge hj (by decide))
      ·
        refine go_iload_n hC dX2_countMeetings_7 rfl ?_
        refine go_iconst (v := 1) hC dX2_countMeetings_8 (by decide) ?_
        refine go_iadd hC dX2_countMeetings_9 ?_
        refine go_istore_n hC 2 dX2_countMeetings_10 rfl (Nat.le_of_ble_eq_true rfl) ?_
        simp only [gm_s0, gm_s1]
        rw [nI_1]
        have lp11 : (fun d : Nat => GO lyC X 0 0 11 [some (.ref (gm_ad X 2 0)), some (.int (nI j)), some (.int (nI (j + 1 + d)))] [] (iter (fun d M => cm1 j (j + 1 + d) M) d (iter cm2 j M))) 0 := by
          refine loopN (4 - j) (fun d : Nat => GO lyC X 0 0 11 [some (.ref (gm_ad X 2 0)), some (.int (nI j)), some (.int (nI (j + 1 + d)))] [] (iter (fun d M => cm1 j (j + 1 + d) M) d (iter cm2 j M))) ?_ (fun d hd ihd => ?_)
          · try dsimp only
            refine go_iload_n hC dX2_countMeetings_11 rfl ?_
            refine go_iconst (v := 5) hC dX2_countMeetings_12 (by decide) ?_
            refine go_icmp_ge hC 65 dX2_countMeetings_13 (by decide) (fun h13 => ?_) (fun h13 => ?_)
            ·
              refine go_iinc (v := 1) hC dX2_countMeetings_65 rfl (by decide) ?_
              simp only [gm_s0, gm_s1]
              refine go_goto hC 2 dX2_countMeetings_68 (by decide) ?_
              rw [nI_1]
              refine go_sub (go_mem ?_ ih) ?_
              · rfl
              repeat (first | exact gm_le_nil | refine gm_le_c ?_ | refine gm_le_n ?_)
            ·
              exact absurd (show nI 5 ≤ nI (j + 1 + (4 - j)) by rw [show j + 1 + (4 - j) = 5 by omega]; exact nI_le (Nat.le_refl _) (by decide)) h13
          · try dsimp only at ihd ⊢
            refine go_iload_n hC dX2_countMeetings_11 rfl ?_
            refine go_iconst (v := 5) hC dX2_countMeetings_12 (by decide) ?_
            refine go_icmp_ge hC 65 dX2_countMeetings_13 (by decide) (fun h13 => ?_) (fun h13 => ?_)
            ·
              exact absurd h13 (show ¬ nI 5 ≤ nI (j + 1 + d) from nI_ge (by omega) (by decide))
            ·
              refine go_aload_n hC dX2_countMeetings_16 rfl ?_
              refine go_getr (ci := 2) hC 4 kwX2_countMeetings_2 rfl rfl (by decide) rfl lkX2_countMeetings_26 (by first | decide | (show _ < 5; omega) | (show _ < 10; omega) | omega) dX2_countMeetings_17 ?_
              refine go_iload_n hC dX2_countMeetings_20 rfl ?_
              refine go_iald hC rfl (by first | decide | (show _ < 5; omega) | (show _ < 10; omega) | omega) (gm_in rfl (by omega) (by decide)) (gm_cl rfl (by omega)) dX2_countMeetings_21 ?_
              refine go_aload_n hC dX2_countMeetings_22 rfl ?_
              refine go_getr (ci := 2) hC 4 kwX2_countMeetings_2 rfl rfl (by decide) rfl lkX2_countMeetings_26 (by first | decide | (show _ < 5; omega) | (show _ < 10; omega) | omega) dX2_countMeetings_23 ?_
              refine go_iload_n hC dX2_countMeetings_26 rfl ?_
              refine go_iald hC rfl (by first | decide | (show _ < 5; omega) | (show _ < 10; omega) | omega) (gm_in rfl (by omega) (by decide)) (gm_cl rfl (by omega)) dX2_countMeetings_27 ?_
              refine go_max hC lmX2_countMeetings_max_l lmX2_countMeetings_max_s lmX2_countMeetings_max_i lmX2_countMeetings_max_c (by rw [hR]; exact ⟨by decide, Nat.le_of_ble_eq_true rfl⟩) (by rw [hR]; exact ⟨by decide, by decide⟩) rfl dX2_countMeetings_28 ?_
              refine go_aload_n hC dX2_countMeetings_31 rfl ?_
              refine go_getr (ci := 2) hC 5 kwX2_countMeetings_2 rfl rfl (by decide) rfl lkX2_countMeetings_29 (by first | decide | (show _ < 5; omega) | (show _ < 10; omega) | omega) dX2_countMeetings_32 ?_
              refine go_iload_n hC dX2_countMeetings_35 rfl ?_
              refine go_iald hC rfl (by first | decide | (show _ < 5; omega) | (show _ < 10; omega) | omega) (gm_in rfl (by omega) (by decide)) (gm_cl rfl (by omega)) dX2_countMeetings_36 ?_
              refine go_aload_n hC dX2_countMeetings_37 rfl ?_
              refine go_getr (ci := 2) hC 5 kwX2_countMeetings_2 rfl rfl (by decide) rfl lkX2_countMeetings_29 (by first | decide | (show _ < 5; omega) | (show _ < 10; omega) | omega) dX2_countMeetings_38 ?_
              refine go_iload_n hC dX2_countMeetings_41 rfl ?_
              refine go_iald hC rfl (by first | decide | (show _ < 5; omega) | (show _ < 10; omega) | omega) (gm_in rfl (by omega) (by decide)) (gm_cl rfl (by omega)) dX2_countMeetings_42 ?_
              refine go_min hC lmX2_countMeetings_min_l lmX2_countMeetings_min_s lmX2_countMeetings_min_i lmX2_countMeetings_min_c (by rw [hR]; exact ⟨by decide, Nat.le_of_ble_eq_true rfl⟩) (by rw [hR]; exact ⟨by decide, by decide⟩) rfl dX2_countMeetings_43 ?_
              refine go_icmp_ge hC 59 dX2_countMeetings_46 (by decide) (fun h46 => ?_) (fun h46 => ?_)
              ·
                refine go_iinc (v := 1) hC dX2_countMeetings_59 rfl (by decide) ?_
                simp only [gm_s0, gm_s1]
                refine go_goto hC 11 dX2_countMeetings_62 (by decide) ?_
                rw [nI_1]
                refine go_mem ?_ ihd
                rw [iter_s _ d]
                first | exact (if_pos h46).symm | exact (if_neg h46).symm
              ·
                refine go_aload_n hC dX2_countMeetings_49 rfl ?_
                refine go_dup hC dX2_countMeetings_50 rfl ?_
                refine go_geti (ci := 2) hC 13 kwX2_countMeetings_2 rfl rfl (by decide) rfl lkX2_countMeetings_223 (by first | decide | (show _ < 5; omega) | (show _ < 10; omega) | omega) dX2_countMeetings_51 ?_
                refine go_iconst (v := 1) hC dX2_countMeetings_54 (by decide) ?_
                refine go_iadd hC dX2_countMeetings_55 ?_
                refine go_puti (ci := 2) hC 13 kwX2_countMeetings_2 rfl tyX2 tyX2_ok nmX2 rfl (by decide) rfl lkX2_countMeetings_223 (by first | decide | (show _ < 5; omega) | (show _ < 10; omega) | omega) rfl rfl rfl dX2_countMeetings_56 ?_
                refine go_iinc (v := 1) hC dX2_countMeetings_59 rfl (by decide) ?_
                simp only [gm_s0, gm_s1]
                refine go_goto hC 11 dX2_countMeetings_62 (by decide) ?_
                rw [nI_1]
                refine go_mem ?_ ihd
                rw [iter_s _ d]
                first | exact (if_pos h46).symm | exact (if_neg h46).symm
        try dsimp only at lp11
        exact lp11
  try dsimp only at lp2
  refine go_iconst (v := 0) hC dX2_countMeetings_0 (by decide) ?_
  refine go_istore_n hC 1 dX2_countMeetings_1 rfl (Nat.le_of_ble_eq_true rfl) ?_
  simp only [gm_s0, gm_s1]
  exact lp2
def ntF (M : gm_M) (a : Nat) (d u c : Int32) : gm_M := gm_up (gm_up (gm_up (gm_up (gm_up M 5 (4 * a) 0 d) 5 (4 * a + 1) 0 u) 5 (4 * a + 2) 0 c) 5 (4 * a + 3) 0 (M 2 9 0)) 2 11 0 (nI (a + 1))
theorem kwX2_note_2 : ∀ w ∈ wsX20, w ∈ wsX2_note := by decide +kernel
theorem lkX2_note_19 : Cond.fieldLink RX2 19 "SharedFibre" "arrivals" "[I" ∈ wsX2_note := by decide +kernel
theorem lkX2_note_143 : Cond.fieldLink RX2 143 "SharedFibre" "frames" "I" ∈ wsX2_note := by decide +kernel
theorem lkX2_note_158 : Cond.fieldLink RX2 158 "SharedFibre" "arrived" "I" ∈ wsX2_note := by decide +kernel
set_option maxHeartbeats 4000000 in
set_option maxRecDepth 100000 in
/-- note -/
theorem c_X2_note (M : gm_M) (a : Nat) (ha : M 2 11 0 = nI a) (h1 : a < 100) (d u c : Int32) : KC lyC yX2_note wsX2_note ({ frames := 0, cells := 0, slots := 0, locals := 0 }) (fun ad => [.ref (ad 2 0), .int d, .int u, .int c]) M (fun _ => none) (ntF M a d u c) := by
  refine KC.of_v (by decide) rfl rfl (fun _ => by simp) (fun _ => by simp [Value.category])  ?_
  intro X hC hR hX hE
  simp only [List.map_cons, List.map_nil, List.cons_append, List.nil_append, List.length_cons, List.length_nil, List.replicate, Nat.reduceAdd, Nat.reduceSub]
  refine go_aload_n hC dX2_note_0 rfl ?_
  refine go_geti (ci := 2) hC 11 kwX2_note_2 rfl rfl (by decide) rfl lkX2_note_158 (by first | decide | (show _ < 5; omega) | (show _ < 10; omega) | omega) dX2_note_1 ?_
  refine go_iconst (v := 4) hC dX2_note_4 (by decide) ?_
  refine go_imul hC dX2_note_5 ?_
  refine go_istore hC dX2_note_6 (Nat.le_of_ble_eq_true rfl) ?_
  simp only [gm_s0, gm_s1]
  rw [show M 2 11 0 * 4 = nI (4 * a) by rw [ha, Nat.mul_comm]; exact pk_mul a 4]
  refine go_aload_n hC dX2_note_8 rfl ?_
  refine go_getr (ci := 2) hC 2 kwX2_note_2 rfl rfl (by decide) rfl lkX2_note_19 (by first | decide | (show _ < 5; omega) | (show _ < 10; omega) | omega) dX2_note_9 ?_
  refine go_iload hC dX2_note_12 rfl ?_
  refine go_iload_n hC dX2_note_14 rfl ?_
  refine go_iast hC rfl (by first | decide | (show _ < 5; omega) | (show _ < 10; omega) | omega) (gm_in rfl (by omega) (by decide)) (gm_cl rfl (by omega)) dX2_note_15 ?_
  refine go_aload_n hC dX2_note_16 rfl ?_
  refine go_getr (ci := 2) hC 2 kwX2_note_2 rfl rfl (by decide) rfl lkX2_note_19 (by first | decide | (show _ < 5; omega) | (show _ < 10; omega) | omega) dX2_note_17 ?_
  refine go_iload hC dX2_note_20 rfl ?_
  refine go_iconst (v := 1) hC dX2_note_22 (by decide) ?_
  refine go_iadd hC dX2_note_23 ?_
  refine go_iload_n hC dX2_note_24 rfl ?_
  refine go_iast hC rfl (by first | decide | (show _ < 5; omega) | (show _ < 10; omega) | omega) (gm_in (nI_add (4 * a) 1) (by omega) (by decide)) (gm_cl (nI_add (4 * a) 1) (by omega)) dX2_note_25 ?_
  refine go_aload_n hC dX2_note_26 rfl ?_
  refine go_getr (ci := 2) hC 2 kwX2_note_2 rfl rfl (by decide) rfl lkX2_note_19 (by first | decide | (show _ < 5; omega) | (show _ < 10; omega) | omega) dX2_note_27 ?_
  refine go_iload hC dX2_note_30 rfl ?_
  refine go_iconst (v := 2) hC dX2_note_32 (by decide) ?_
  refine go_iadd hC dX2_note_33 ?_
  refine go_iload_n hC dX2_note_34 rfl ?_
  refine go_iast hC rfl (by first | decide | (show _ < 5; omega) | (show _ < 10; omega) | omega) (gm_in (nI_add (4 * a) 2) (by omega) (by decide)) (gm_cl (nI_add (4 * a) 2) (by omega)) dX2_note_35 ?_
  refine go_aload_n hC dX2_note_36 rfl ?_
  refine go_getr (ci := 2) hC 2 kwX2_note_2 rfl rfl (by decide) rfl lkX2_note_19 (by first | decide | (show _ < 5; omega) | (show _ < 10; omega) | omega) dX2_note_37 ?_
  refine go_iload hC dX2_note_40 rfl ?_
  refine go_iconst (v := 3) hC dX2_note_42 (by decide) ?_
  refine go_iadd hC dX2_note_43 ?_
  refine go_aload_n hC dX2_note_44 rfl ?_
  refine go_geti (ci := 2) hC 9 kwX2_note_2 rfl rfl (by decide) rfl lkX2_note_143 (by first | decide | (show _ < 5; omega) | (show _ < 10; omega) | omega) dX2_note_45 ?_
  refine go_iast hC rfl (by first | decide | (show _ < 5; omega) | (show _ < 10; omega) | omega) (gm_in (nI_add (4 * a) 3) (by omega) (by decide)) (gm_cl (nI_add (4 * a) 3) (by omega)) dX2_note_48 ?_
  refine go_aload_n hC dX2_note_49 rfl ?_
  refine go_dup hC dX2_note_50 rfl ?_
  refine go_geti (ci := 2) hC 11 kwX2_note_2 rfl rfl (by decide) rfl lkX2_note_158 (by first | decide | (show _ < 5; omega) | (show _ < 10; omega) | omega) dX2_note_51 ?_
  refine go_iconst (v := 1) hC dX2_note_54 (by decide) ?_
  refine go_iadd hC dX2_note_55 ?_
  refine go_puti (ci := 2) hC 11 kwX2_note_2 rfl tyX2 tyX2_ok nmX2 rfl (by decide) rfl lkX2_note_158 (by first | decide | (show _ < 5; omega) | (show _ < 10; omega) | omega) rfl rfl rfl dX2_note_56 ?_
  refine go_cast rfl ?_ (hE _ _ dX2_note_59)
  unfold ntF
  simp only [gm_un1 (show (2 : Nat) ≠ 5 by decide), ha, nI_1]
def tdF : Nat → gm_M → gm_M := fun u M => if M 1 1 u = 2 then uKey (uWord M u (M 2 9 0)) u else M
theorem kwX2_tellDown_1 : ∀ w ∈ wsX10, w ∈ wsX2_tellDown := by decide +kernel
theorem kwX2_tellDown_2 : ∀ w ∈ wsX20, w ∈ wsX2_tellDown := by decide +kernel
theorem lkX2_tellDown_11 : Cond.fieldLink RX2 11 "SharedFibre" "units" "[LSharedFibre$Unit;" ∈ wsX2_tellDown := by decide +kernel
theorem lkX2_tellDown_58 : Cond.fieldLink RX2 58 "SharedFibre$Unit" "state" "I" ∈ wsX2_tellDown := by decide +kernel
theorem lkX2_tellDown_143 : Cond.fieldLink RX2 143 "SharedFibre" "frames" "I" ∈ wsX2_tellDown := by decide +kernel
set_option maxHeartbeats 4000000 in
set_option maxRecDepth 100000 in
/-- tellDown -/
theorem c_X2_tellDown (M : gm_M) : KC lyC yX2_tellDown wsX2_tellDown ({ frames := 2, cells := 0, slots := 0, locals := 44 }) (fun ad => [.ref (ad 2 0)]) M (fun _ => none) (iter tdF 5 M) := by
  refine KC.of_v (by decide) rfl rfl (fun _ => by simp) (fun _ => by simp [Value.category])  ?_
  intro X hC hR hX hE
  simp only [List.map_cons, List.map_nil, List.cons_append, List.nil_append, List.length_cons, List.length_nil, List.replicate, Nat.reduceAdd, Nat.reduceSub]
  have lp10 : (fun j : Nat => GO lyC X 0 0 10 [some (.ref (gm_ad X 2 0)), some (.ref (gm_ad X 3 0)), some (.int 5), some (.int (nI j)), none] [] (iter tdF j M)) 0 := by
    refine loopN (5) (fun j : Nat => GO lyC X 0 0 10 [some (.ref (gm_ad X 2 0)), some (.ref (gm_ad X 3 0)), some (.int 5), some (.int (nI j)), none] [] (iter tdF j M)) ?_ (fun j hj ih => ?_)
    · try dsimp only
      refine go_iload_n hC dX2_tellDown_10 rfl ?_
      refine go_iload_n hC dX2_tellDown_11 rfl ?_
      refine go_icmp_ge hC 49 dX2_tellDown_12 (by decide) (fun h12 => ?_) (fun h12 => ?_)
      ·
        refine go_cast ?_ ?_ (hE _ _ dX2_tellDown_49)
        · first | rfl | (simp [*]; done) | (simp [*, gm_us, gm_un1, gm_un2]; done)
        · first | rfl | (simp [*]; done) | (simp [*, gm_us, gm_un1, gm_un2]; done)
      ·
        exact absurd (show nI 5 ≤ nI 5 from nI_le (Nat.le_refl _) (by decide)) h12
    · try dsimp only at ih ⊢
      refine go_iload_n hC dX2_tellDown_10 rfl ?_
      refine go_iload_n hC dX2_tellDown_11 rfl ?_
      refine go_icmp_ge hC 49 dX2_tellDown_12 (by decide) (fun h12 => ?_) (fun h12 => ?_)
      ·
        exact absurd h12 (show ¬ nI 5 ≤ nI j from nI_ge hj (by decide))
      ·
        refine go_aload_n hC dX2_tellDown_15 rfl ?_
        refine go_iload_n hC dX2_tellDown_16 rfl ?_
        refine go_aald hC rfl (fun _ => rfl) (by first | decide | (show _ < 5; omega) | (show _ < 10; omega) | omega) (gm_in rfl (by omega) (by decide)) (gm_cu rfl (by omega)) dX2_tellDown_17 ?_
        refine go_astore hC dX2_tellDown_18 (Nat.le_of_ble_eq_true rfl) ?_
        simp only [gm_s0, gm_s1]
        refine go_aload hC dX2_tellDown_20 rfl ?_
        refine go_geti (ci := 1) hC 1 kwX2_tellDown_1 rfl rfl (by decide) rfl lkX2_tellDown_58 (by first | decide | (show _ < 5; omega) | (show _ < 10; omega) | omega) dX2_tellDown_22 ?_
        refine go_iconst (v := 2) hC dX2_tellDown_25 (by decide) ?_
        refine go_icmp_ne hC 43 dX2_tellDown_26 (by decide) (fun h26 => ?_) (fun h26 => ?_)
        ·
          refine go_iinc (v := 1) hC dX2_tellDown_43 rfl (by decide) ?_
          simp only [gm_s0, gm_s1]
          refine go_goto hC 10 dX2_tellDown_46 (by decide) ?_
          rw [nI_1]
          refine go_sub (go_mem ?_ ih) ?_
          · rw [iter_s tdF j]
            first | (simp only [tdF, if_pos h26]; done) | (simp only [tdF, if_neg h26]; done)
          repeat (first | exact gm_le_nil | refine gm_le_c ?_ | refine gm_le_n ?_)
        ·
          refine go_aload hC dX2_tellDown_29 rfl ?_
          refine go_aload_n hC dX2_tellDown_31 rfl ?_
          refine go_geti (ci := 2) hC 9 kwX2_tellDown_2 rfl rfl (by decide) rfl lkX2_tellDown_143 (by first | decide | (show _ < 5; omega) | (show _ < 10; omega) | omega) dX2_tellDown_32 ?_
          refine go_callV (n := 1) (k0 := 1) (n0 := j) hC hX (c_X1_takeWord _ _ (by omega) _) gX2_tellDown_X1_takeWord rfl (by decide +kernel) ⟨rfl, rfl⟩ (by rw [hR]; exact ⟨by decide, by decide⟩) (by rw [hR]; exact ⟨by decide, by decide⟩) rfl rfl rfl (by first | decide | (show _ < 5; omega) | (show _ < 10; omega) | omega) rfl rfl rfl (Nat.le_of_ble_eq_true rfl) dX2_tellDown_35 ?_
          simp only [gm_r0, gm_r1]
          refine go_aload hC dX2_tellDown_38 rfl ?_
          refine go_callV (n := 0) (k0 := 1) (n0 := j) hC hX (c_X1_takeKey _ _ (by omega)) gX2_tellDown_X1_takeKey rfl (by decide +kernel) ⟨rfl, rfl⟩ (by rw [hR]; exact ⟨by decide, by decide⟩) (by rw [hR]; exact ⟨by decide, by decide⟩) rfl rfl rfl (by first | decide | (show _ < 5; omega) | (show _ < 10; omega) | omega) rfl rfl rfl (Nat.le_of_ble_eq_true rfl) dX2_tellDown_40 ?_
          simp only [gm_r0, gm_r1]
          refine go_iinc (v := 1) hC dX2_tellDown_43 rfl (by decide) ?_
          simp only [gm_s0, gm_s1]
          refine go_goto hC 10 dX2_tellDown_46 (by decide) ?_
          rw [nI_1]
          refine go_sub (go_mem ?_ ih) ?_
          · rw [iter_s tdF j]
            first | (simp only [tdF, if_pos h26]; done) | (simp only [tdF, if_neg h26]; done)
          repeat (first | exact gm_le_nil | refine gm_le_c ?_ | refine gm_le_n ?_)
  try dsimp only at lp10
  refine go_aload_n hC dX2_tellDown_0 rfl ?_
  refine go_getr (ci := 2) hC 0 kwX2_tellDown_2 rfl rfl (by decide) rfl lkX2_tellDown_11 (by first | decide | (show _ < 5; omega) | (show _ < 10; omega) | omega) dX2_tellDown_1 ?_
  refine go_astore_n hC 1 dX2_tellDown_4 rfl (Nat.le_of_ble_eq_true rfl) ?_
  simp only [gm_s0, gm_s1]
  refine go_aload_n hC dX2_tellDown_5 rfl ?_
  refine go_alenr (v := 5) hC rfl (fun _ => rfl) (by first | decide | (show _ < 5; omega) | (show _ < 10; omega) | omega) (by decide) dX2_tellDown_6 ?_
  refine go_istore_n hC 2 dX2_tellDown_7 rfl (Nat.le_of_ble_eq_true rfl) ?_
  simp only [gm_s0, gm_s1]
  refine go_iconst (v := 0) hC dX2_tellDown_8 (by decide) ?_
  refine go_istore_n hC 3 dX2_tellDown_9 rfl (Nat.le_of_ble_eq_true rfl) ?_
  simp only [gm_s0, gm_s1]
  exact lp10
def csF : Nat → gm_M → gm_M := fun u M => gm_up M 1 14 u 0
theorem kwX2_clearSpoilt_1 : ∀ w ∈ wsX10, w ∈ wsX2_clearSpoilt := by decide +kernel
theorem kwX2_clearSpoilt_2 : ∀ w ∈ wsX20, w ∈ wsX2_clearSpoilt := by decide +kernel
theorem lkX2_clearSpoilt_11 : Cond.fieldLink RX2 11 "SharedFibre" "units" "[LSharedFibre$Unit;" ∈ wsX2_clearSpoilt := by decide +kernel
theorem lkX2_clearSpoilt_135 : Cond.fieldLink RX2 135 "SharedFibre$Unit" "spoilt" "Z" ∈ wsX2_clearSpoilt := by decide +kernel
set_option maxHeartbeats 4000000 in
set_option maxRecDepth 100000 in
/-- clearSpoilt -/
theorem c_X2_clearSpoilt (M : gm_M) : KC lyC yX2_clearSpoilt wsX2_clearSpoilt ({ frames := 0, cells := 0, slots := 0, locals := 0 }) (fun ad => [.ref (ad 2 0)]) M (fun _ => none) (iter csF 5 M) := by
  refine KC.of_v (by decide) rfl rfl (fun _ => by simp) (fun _ => by simp [Value.category])  ?_
  intro X hC hR hX hE
  simp only [List.map_cons, List.map_nil, List.cons_append, List.nil_append, List.length_cons, List.length_nil, List.replicate, Nat.reduceAdd, Nat.reduceSub]
  have lp10 : (fun j : Nat => GO lyC X 0 0 10 [some (.ref (gm_ad X 2 0)), some (.ref (gm_ad X 3 0)), some (.int 5), some (.int (nI j)), none] [] (iter csF j M)) 0 := by
    refine loopN (5) (fun j : Nat => GO lyC X 0 0 10 [some (.ref (gm_ad X 2 0)), some (.ref (gm_ad X 3 0)), some (.int 5), some (.int (nI j)), none] [] (iter csF j M)) ?_ (fun j hj ih => ?_)
    · try dsimp only
      refine go_iload_n hC dX2_clearSpoilt_10 rfl ?_
      refine go_iload_n hC dX2_clearSpoilt_11 rfl ?_
      refine go_icmp_ge hC 32 dX2_clearSpoilt_12 (by decide) (fun h12 => ?_) (fun h12 => ?_)
      ·
        refine go_cast ?_ ?_ (hE _ _ dX2_clearSpoilt_32)
        · first | rfl | (simp [*]; done) | (simp [*, gm_us, gm_un1, gm_un2]; done)
        · first | rfl | (simp [*]; done) | (simp [*, gm_us, gm_un1, gm_un2]; done)
      ·
        exact absurd (show nI 5 ≤ nI 5 from nI_le (Nat.le_refl _) (by decide)) h12
    · try dsimp only at ih ⊢
      refine go_iload_n hC dX2_clearSpoilt_10 rfl ?_
      refine go_iload_n hC dX2_clearSpoilt_11 rfl ?_
      refine go_icmp_ge hC 32 dX2_clearSpoilt_12 (by decide) (fun h12 => ?_) (fun h12 => ?_)
      ·
        exact absurd h12 (show ¬ nI 5 ≤ nI j from nI_ge hj (by decide))
      ·
        refine go_aload_n hC dX2_clearSpoilt_15 rfl ?_
        refine go_iload_n hC dX2_clearSpoilt_16 rfl ?_
        refine go_aald hC rfl (fun _ => rfl) (by first | decide | (show _ < 5; omega) | (show _ < 10; omega) | omega) (gm_in rfl (by omega) (by decide)) (gm_cu rfl (by omega)) dX2_clearSpoilt_17 ?_
        refine go_astore hC dX2_clearSpoilt_18 (Nat.le_of_ble_eq_true rfl) ?_
        simp only [gm_s0, gm_s1]
        refine go_aload hC dX2_clearSpoilt_20 rfl ?_
        refine go_iconst (v := 0) hC dX2_clearSpoilt_22 (by decide) ?_
        refine go_puti (ci := 1) hC 14 kwX2_clearSpoilt_1 rfl tyX1 tyX1_ok nmX1 rfl (by decide) rfl lkX2_clearSpoilt_135 (by first | decide | (show _ < 5; omega) | (show _ < 10; omega) | omega) rfl (by decide) (by decide) dX2_clearSpoilt_23 ?_
        refine go_iinc (v := 1) hC dX2_clearSpoilt_26 rfl (by decide) ?_
        simp only [gm_s0, gm_s1]
        refine go_goto hC 10 dX2_clearSpoilt_29 (by decide) ?_
        rw [nI_1]
        refine go_sub (go_mem ?_ ih) ?_
        · rfl
        repeat (first | exact gm_le_nil | refine gm_le_c ?_ | refine gm_le_n ?_)
  try dsimp only at lp10
  refine go_aload_n hC dX2_clearSpoilt_0 rfl ?_
  refine go_getr (ci := 2) hC 0 kwX2_clearSpoilt_2 rfl rfl (by decide) rfl lkX2_clearSpoilt_11 (by first | decide | (show _ < 5; omega) | (show _ < 10; omega) | omega) dX2_clearSpoilt_1 ?_
  refine go_astore_n hC 1 dX2_clearSpoilt_4 rfl (Nat.le_of_ble_eq_true rfl) ?_
  simp only [gm_s0, gm_s1]
  refine go_aload_n hC dX2_clearSpoilt_5 rfl ?_
  refine go_alenr (v := 5) hC rfl (fun _ => rfl) (by first | decide | (show _ < 5; omega) | (show _ < 10; omega) | omega) (by decide) dX2_clearSpoilt_6 ?_
  refine go_istore_n hC 2 dX2_clearSpoilt_7 rfl (Nat.le_of_ble_eq_true rfl) ?_
  simp only [gm_s0, gm_s1]
  refine go_iconst (v := 0) hC dX2_clearSpoilt_8 (by decide) ?_
  refine go_istore_n hC 3 dX2_clearSpoilt_9 rfl (Nat.le_of_ble_eq_true rfl) ?_
  simp only [gm_s0, gm_s1]
  exact lp10
theorem kwX2_discover_2 : ∀ w ∈ wsX20, w ∈ wsX2_discover := by decide +kernel
theorem lkX2_discover_140 : Cond.fieldLink RX2 140 "SharedFibre" "quietAsked" "Z" ∈ wsX2_discover := by decide +kernel
set_option maxHeartbeats 4000000 in
set_option maxRecDepth 100000 in
/-- discover -/
theorem c_X2_discover (M : gm_M) : KC lyC yX2_discover wsX2_discover ({ frames := 0, cells := 0, slots := 0, locals := 0 }) (fun ad => [.ref (ad 2 0)]) M (fun _ => none) (gm_up M 2 8 0 1) := by
  refine KC.of_v (by decide) rfl rfl (fun _ => by simp) (fun _ => by simp [Value.category])  ?_
  intro X hC hR hX hE
  simp only [List.map_cons, List.map_nil, List.cons_append, List.nil_append, List.length_cons, List.length_nil, List.replicate, Nat.reduceAdd, Nat.reduceSub]
  refine go_aload_n hC dX2_discover_0 rfl ?_
  refine go_iconst (v := 1) hC dX2_discover_1 (by decide) ?_
  refine go_puti (ci := 2) hC 8 kwX2_discover_2 rfl tyX2 tyX2_ok nmX2 rfl (by decide) rfl lkX2_discover_140 (by first | decide | (show _ < 5; omega) | (show _ < 10; omega) | omega) rfl (by decide) (by decide) dX2_discover_2 ?_
  refine go_cast ?_ ?_ (hE _ _ dX2_discover_5)
  · first | rfl | (simp [*]; done) | (simp [*, gm_us, gm_un1, gm_un2]; done)
  · first | rfl | (simp [*]; done) | (simp [*, gm_us, gm_un1, gm_un2]; done)
