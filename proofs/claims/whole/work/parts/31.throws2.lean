/-! ===== the class: the calls that may throw (2) ===== -/
theorem faD_le (M : gm_M) : ∀ d j, faD M d j ≤ j + d
  | 0, j => Nat.le_refl _
  | d + 1, j => by
    unfold faD
    split
    · omega
    · have := faD_le M d (j + 1)
      omega
theorem kwX2_plug_1 : ∀ w ∈ wsX10, w ∈ wsX2_plug := by decide +kernel
theorem kwX2_plug_2 : ∀ w ∈ wsX20, w ∈ wsX2_plug := by decide +kernel
theorem lkX2_plug_11 : Cond.fieldLink RX2 11 "SharedFibre" "units" "[LSharedFibre$Unit;" ∈ wsX2_plug := by decide +kernel
theorem lkX2_plug_58 : Cond.fieldLink RX2 58 "SharedFibre$Unit" "state" "I" ∈ wsX2_plug := by decide +kernel
theorem lkX2_plug_62 : Cond.fieldLink RX2 62 "SharedFibre$Unit" "serial" "I" ∈ wsX2_plug := by decide +kernel
theorem lkX2_plug_64 : Cond.fieldLink RX2 64 "SharedFibre$Unit" "way" "I" ∈ wsX2_plug := by decide +kernel
theorem ltX2_plug_Ii : Cond.initialized "java/lang/IllegalArgumentException" ∈ wsX2_plug := by decide +kernel
theorem ltX2_plug_Ik : Cond.classLink RX2 37 "java/lang/IllegalArgumentException" ∈ wsX2_plug := by decide +kernel
theorem ltX2_plug_Si : Cond.initialized "java/lang/IllegalStateException" ∈ wsX2_plug := by decide +kernel
theorem ltX2_plug_Sk : Cond.classLink RX2 53 "java/lang/IllegalStateException" ∈ wsX2_plug := by decide +kernel
theorem ltX2_plug_Ig : ∀ w ∈ (xW 41 "java/lang/IllegalArgumentException").filter goodWord, w ∈ wsX2_plug := by
  intro w h
  first | exact List.mem_cons_of_mem _ (List.mem_append_right _ h) | exact List.mem_cons_of_mem _ (List.mem_append_left _ (List.mem_append_right _ h)) | exact List.mem_cons_of_mem _ (List.mem_append_left _ (List.mem_append_left _ (List.mem_append_right _ h)))
theorem ltX2_plug_Sg : ∀ w ∈ (xW 57 "java/lang/IllegalStateException").filter goodWord, w ∈ wsX2_plug := by
  intro w h
  first | exact List.mem_cons_of_mem _ (List.mem_append_right _ h) | exact List.mem_cons_of_mem _ (List.mem_append_left _ (List.mem_append_right _ h)) | exact List.mem_cons_of_mem _ (List.mem_append_left _ (List.mem_append_left _ (List.mem_append_right _ h)))
set_option maxHeartbeats 4000000 in
set_option maxRecDepth 100000 in
/-- X2_plug -/
theorem c_X2_plug (M : gm_M) (a y : Int32) : KX lyC yX2_plug wsX2_plug ({ frames := 6, cells := 1, slots := 6, locals := 90 }) (fun ad => [.ref (ad 2 0), .int a, .int y]) M (thF (a < 0 ∨ 9999 < a ∨ (∃ k, k < 5 ∧ (¬ M 1 1 k = 0 ∧ M 1 2 k = a)) ∨ ¬ (¬ y < 100 ∧ ¬ 600 < y)) "java/lang/IllegalArgumentException" (thF (faD M 5 0 = 5) "java/lang/IllegalStateException" none)) (fun _ => some (.int (nI (faD M 5 0)))) (gm_up (gm_up (gm_up M 1 1 (faD M 5 0) 1) 1 2 (faD M 5 0) a) 1 3 (faD M 5 0) y) 1 6 := by
  refine KX.of_i (by decide) rfl rfl (fun _ => by simp) (fun _ => by simp [Value.category])  ?_
  intro X hC hR hSX hE hT
  have hX := hSX.nx
  simp only [List.map_cons, List.map_nil, List.cons_append, List.nil_append, List.length_cons, List.length_nil, List.replicate, Nat.reduceAdd, Nat.reduceSub]
  refine go_iload_n hC dX2_plug_0 rfl ?_
  refine go_if_lt hC 19 dX2_plug_1 (by decide) (fun h1 => ?_) (fun h1 => ?_)
  ·
    exact hT _ _ _ _ _ _ "java/lang/IllegalArgumentException" "serial" _ (thF_t (by first | exact Or.inl h1 | exact Or.inr (Or.inl h8) | exact Or.inr (Or.inr (Or.inl hs)))) (by decide) (by decide) (by decide) (by decide) ltX2_plug_Ik ltX2_plug_Ii ltX2_plug_Ig rfl (by decide) (by decide) (by decide) (by decide) dX2_plug_19 dX2_plug_22 dX2_plug_23 dX2_plug_25 dX2_plug_28
  ·
    refine go_iload_n hC dX2_plug_4 rfl ?_
    refine go_sipush (v := 9999) hC dX2_plug_5 (by decide) ?_
    refine go_icmp_gt hC 19 dX2_plug_8 (by decide) (fun h8 => ?_) (fun h8 => ?_)
    ·
      exact hT _ _ _ _ _ _ "java/lang/IllegalArgumentException" "serial" _ (thF_t (by first | exact Or.inl h1 | exact Or.inr (Or.inl h8) | exact Or.inr (Or.inr (Or.inl hs)))) (by decide) (by decide) (by decide) (by decide) ltX2_plug_Ik ltX2_plug_Ii ltX2_plug_Ig rfl (by decide) (by decide) (by decide) (by decide) dX2_plug_19 dX2_plug_22 dX2_plug_23 dX2_plug_25 dX2_plug_28
    ·
      refine go_aload_n hC dX2_plug_11 rfl ?_
      refine go_iload_n hC dX2_plug_12 rfl ?_
      refine go_callV (n := 1) (k0 := 2) (n0 := 0) hC hX (c_X2_hasSerial _ _) gX2_plug_X2_hasSerial rfl (by decide +kernel) ⟨rfl, rfl⟩ (by rw [hR]; exact ⟨by decide, by decide⟩) (by rw [hR]; exact ⟨by decide, by decide⟩) rfl rfl rfl (by first | decide | (show _ < 5; omega) | (show _ < 10; omega) | omega) rfl rfl rfl (Nat.le_of_ble_eq_true rfl) dX2_plug_13 ?_
      simp only [gm_r0, gm_r1]
      refine go_if_eq hC 29 dX2_plug_16 (by decide) (fun h16 => ?_) (fun h16 => ?_)
      ·
        have hs : ¬ (∃ k, k < 5 ∧ (¬ M 1 1 k = 0 ∧ M 1 2 k = a)) := fun q => absurd (h16.symm.trans (tF_t q)) (by decide)
        refine go_iload_n hC dX2_plug_29 rfl ?_
        refine go_callS (n := 1) hC hX (c_X2_isWay _ _) gX2_plug_X2_isWay rfl (by decide +kernel) ⟨rfl, rfl⟩ (by rw [hR]; exact ⟨by decide, by decide⟩) (by rw [hR]; exact ⟨by decide, by decide⟩) rfl rfl rfl rfl (Nat.le_of_ble_eq_true rfl) dX2_plug_30 ?_
        simp only [gm_r0, gm_r1]
        refine go_if_ne hC 46 dX2_plug_33 (by decide) (fun h33 => ?_) (fun h33 => ?_)
        ·
          have hw : (¬ y < 100 ∧ ¬ 600 < y) := Classical.byContradiction (fun q => h33 (if_neg q))
          have hnb : ¬ (a < 0 ∨ 9999 < a ∨ (∃ k, k < 5 ∧ (¬ M 1 1 k = 0 ∧ M 1 2 k = a)) ∨ ¬ (¬ y < 100 ∧ ¬ 600 < y)) := fun q => q.elim h1 (fun q => q.elim h8 (fun q => q.elim hs (fun q => q hw)))
          refine go_aload_n hC dX2_plug_46 rfl ?_
          refine go_callV (n := 0) (k0 := 2) (n0 := 0) hC hX (c_X2_firstAway _) gX2_plug_X2_firstAway rfl (by decide +kernel) ⟨rfl, rfl⟩ (by rw [hR]; exact ⟨by decide, by decide⟩) (by rw [hR]; exact ⟨by decide, by decide⟩) rfl rfl rfl (by first | decide | (show _ < 5; omega) | (show _ < 10; omega) | omega) rfl rfl rfl (Nat.le_of_ble_eq_true rfl) dX2_plug_47 ?_
          simp only [gm_r0, gm_r1]
          refine go_istore_n hC 3 dX2_plug_50 rfl (Nat.le_of_ble_eq_true rfl) ?_
          simp only [gm_s0, gm_s1]
          refine go_iload_n hC dX2_plug_51 rfl ?_
          refine go_iconst (v := 5) hC dX2_plug_52 (by decide) ?_
          refine go_icmp_ne hC 66 dX2_plug_53 (by decide) (fun h53 => ?_) (fun h53 => ?_)
          ·
            have hfa : ¬ faD M 5 0 = 5 := fun q => h53 (by rw [q]; decide)
            have hf5 : faD M 5 0 < 5 := by have := faD_le M 5 0; omega
            refine go_aload_n hC dX2_plug_66 rfl ?_
            refine go_getr (ci := 2) hC 0 kwX2_plug_2 rfl rfl (by decide) rfl lkX2_plug_11 (by first | decide | (show _ < 5; omega) | (show _ < 10; omega) | omega) dX2_plug_67 ?_
            refine go_iload_n hC dX2_plug_70 rfl ?_
            refine go_aald hC rfl (fun _ => rfl) (by first | decide | (show _ < 5; omega) | (show _ < 10; omega) | omega) (gm_in rfl (by omega) (by decide)) (gm_cu rfl (by omega)) dX2_plug_71 ?_
            refine go_astore hC dX2_plug_72 (Nat.le_of_ble_eq_true rfl) ?_
            simp only [gm_s0, gm_s1]
            refine go_aload hC dX2_plug_74 rfl ?_
            refine go_iconst (v := 1) hC dX2_plug_76 (by decide) ?_
            refine go_puti (ci := 1) hC 1 kwX2_plug_1 rfl tyX1 tyX1_ok nmX1 rfl (by decide) rfl lkX2_plug_58 (by first | decide | (show _ < 5; omega) | (show _ < 10; omega) | omega) rfl rfl rfl dX2_plug_77 ?_
            refine go_aload hC dX2_plug_80 rfl ?_
            refine go_iload_n hC dX2_plug_82 rfl ?_
            refine go_puti (ci := 1) hC 2 kwX2_plug_1 rfl tyX1 tyX1_ok nmX1 rfl (by decide) rfl lkX2_plug_62 (by first | decide | (show _ < 5; omega) | (show _ < 10; omega) | omega) rfl rfl rfl dX2_plug_83 ?_
            refine go_aload hC dX2_plug_86 rfl ?_
            refine go_iload_n hC dX2_plug_88 rfl ?_
            refine go_puti (ci := 1) hC 3 kwX2_plug_1 rfl tyX1 tyX1_ok nmX1 rfl (by decide) rfl lkX2_plug_64 (by first | decide | (show _ < 5; omega) | (show _ < 10; omega) | omega) rfl rfl rfl dX2_plug_89 ?_
            refine go_iload_n hC dX2_plug_92 rfl ?_
            refine go_cast ?_ ?_ (hE _ _ _ _ (by decide) (by decide) ((thF_f hnb).trans (thF_f hfa)) dX2_plug_93)
            · first | rfl | (simp [*]; done)
            · first | rfl | (simp [*]; done)
          ·
            have hfa : faD M 5 0 = 5 := (nI_eq (by have := faD_le M 5 0; omega) (by decide)).mp h53
            exact hT _ _ _ _ _ _ "java/lang/IllegalStateException" "no unit is away" _ ((thF_f hnb).trans (thF_t hfa)) (by decide) (by decide) (by decide) (by decide) ltX2_plug_Sk ltX2_plug_Si ltX2_plug_Sg rfl (by decide) (by decide) (by decide) (by decide) dX2_plug_56 dX2_plug_59 dX2_plug_60 dX2_plug_62 dX2_plug_65
        ·
          exact hT _ _ _ _ _ _ "java/lang/IllegalArgumentException" "way" _ (thF_t (Or.inr (Or.inr (Or.inr (fun q => absurd (h33.symm.trans (if_pos q)) (by decide)))))) (by decide) (by decide) (by decide) (by decide) ltX2_plug_Ik ltX2_plug_Ii ltX2_plug_Ig rfl (by decide) (by decide) (by decide) (by decide) dX2_plug_36 dX2_plug_39 dX2_plug_40 dX2_plug_42 dX2_plug_45
      ·
        have hs : (∃ k, k < 5 ∧ (¬ M 1 1 k = 0 ∧ M 1 2 k = a)) := Classical.byContradiction (fun q => h16 (tF_f q))
        exact hT _ _ _ _ _ _ "java/lang/IllegalArgumentException" "serial" _ (thF_t (by first | exact Or.inl h1 | exact Or.inr (Or.inl h8) | exact Or.inr (Or.inr (Or.inl hs)))) (by decide) (by decide) (by decide) (by decide) ltX2_plug_Ik ltX2_plug_Ii ltX2_plug_Ig rfl (by decide) (by decide) (by decide) (by decide) dX2_plug_19 dX2_plug_22 dX2_plug_23 dX2_plug_25 dX2_plug_28
def ctF (M : gm_M) (n : Nat) (f a m g : Int32) : gm_M := gm_up (gm_up (gm_up (gm_up M 0 4 n f) 0 5 n a) 0 6 n m) 0 7 n g
theorem kwX2_contract_0 : ∀ w ∈ wsX00, w ∈ wsX2_contract := by decide +kernel
theorem lkX2_contract_84 : Cond.fieldLink RX2 84 "SharedFibre$Container" "fixed" "I" ∈ wsX2_contract := by decide +kernel
theorem lkX2_contract_89 : Cond.fieldLink RX2 89 "SharedFibre$Container" "assured" "I" ∈ wsX2_contract := by decide +kernel
theorem lkX2_contract_94 : Cond.fieldLink RX2 94 "SharedFibre$Container" "most" "I" ∈ wsX2_contract := by decide +kernel
theorem lkX2_contract_97 : Cond.fieldLink RX2 97 "SharedFibre$Container" "weight" "I" ∈ wsX2_contract := by decide +kernel
theorem ltX2_contract_Ii : Cond.initialized "java/lang/IllegalArgumentException" ∈ wsX2_contract := by decide +kernel
theorem ltX2_contract_Ik : Cond.classLink RX2 37 "java/lang/IllegalArgumentException" ∈ wsX2_contract := by decide +kernel
theorem ltX2_contract_Si : Cond.initialized "java/lang/IllegalStateException" ∈ wsX2_contract := by decide +kernel
theorem ltX2_contract_Sk : Cond.classLink RX2 53 "java/lang/IllegalStateException" ∈ wsX2_contract := by decide +kernel
theorem ltX2_contract_Ig : ∀ w ∈ (xW 41 "java/lang/IllegalArgumentException").filter goodWord, w ∈ wsX2_contract := by
  intro w h
  first | exact List.mem_cons_of_mem _ (List.mem_append_right _ h) | exact List.mem_cons_of_mem _ (List.mem_append_left _ (List.mem_append_right _ h)) | exact List.mem_cons_of_mem _ (List.mem_append_left _ (List.mem_append_left _ (List.mem_append_right _ h)))
theorem ltX2_contract_Sg : ∀ w ∈ (xW 57 "java/lang/IllegalStateException").filter goodWord, w ∈ wsX2_contract := by
  intro w h
  first | exact List.mem_cons_of_mem _ (List.mem_append_right _ h) | exact List.mem_cons_of_mem _ (List.mem_append_left _ (List.mem_append_right _ h)) | exact List.mem_cons_of_mem _ (List.mem_append_left _ (List.mem_append_left _ (List.mem_append_right _ h)))
set_option maxHeartbeats 4000000 in
set_option maxRecDepth 100000 in
/-- X2_contract -/
theorem c_X2_contract (M : gm_M) (u c f a m g : Int32) : KX lyC yX2_contract wsX2_contract ({ frames := 9, cells := 4, slots := 24, locals := 155 }) (fun ad => [.ref (ad 2 0), .int u, .int c, .int f, .int a, .int m, .int g]) M (thF (aW M u ∨ bC c ∨ f < 0 ∨ a < 0 ∨ 60 < m ∨ ¬ lg_cmp (f.toInt64 + a.toInt64) m.toInt64 ≤ 0 ∨ g < 1 ∨ ¬ g ≤ 9) "java/lang/IllegalArgumentException" (thF (¬ ((((bx_sum (fun k => M 0 4 k + M 0 5 k) 10 - M 0 4 (2 * uN u + uN c)) - M 0 5 (2 * uN u + uN c)) + f) + a) ≤ 55) "java/lang/IllegalStateException" none)) (fun _ => none) (ctF M (2 * uN u + uN c) f a m g) 4 24 := by
  refine KX.of_v (by decide) rfl rfl (fun _ => by simp) (fun _ => by simp [Value.category])  ?_
  intro X hC hR hSX hE hT
  have hX := hSX.nx
  simp only [List.map_cons, List.map_nil, List.cons_append, List.nil_append, List.length_cons, List.length_nil, List.replicate, Nat.reduceAdd, Nat.reduceSub]
  refine go_aload_n hC dX2_contract_0 rfl ?_
  refine go_iload_n hC dX2_contract_1 rfl ?_
  refine go_iload_n hC dX2_contract_2 rfl ?_
  refine go_callVX (n := 2) (k0 := 2) (n0 := 0) hC hSX (c_X2_pluggedContainer M u c) gX2_contract_X2_pluggedContainer rfl (by decide +kernel) ⟨rfl, rfl⟩ (by rw [hR]; exact ⟨by decide, by decide⟩) (by rw [hR]; exact ⟨by decide, by decide⟩) rfl (by decide) (by decide) rfl rfl (by first | decide | (show _ < 5; omega) | (show _ < 10; omega) | omega) rfl rfl rfl (Nat.le_of_ble_eq_true rfl) dX2_contract_3 (fun E h => by obtain ⟨hp, rfl⟩ := thF_some h; exact thF_t (hp.elim (fun q => Or.inl q) (fun q => Or.inr (Or.inl q)))) (fun hn3 => ?_)
  simp only [gm_r0, gm_r1]
  obtain ⟨hue, hu5⟩ := bU_ix (fun q => thF_none hn3 (Or.inl (Or.inl q)))
  obtain ⟨hce, hc2⟩ := bC_ix (fun q => thF_none hn3 (Or.inr q))
  refine go_astore hC dX2_contract_6 (Nat.le_of_ble_eq_true rfl) ?_
  simp only [gm_s0, gm_s1]
  refine go_iload_n hC dX2_contract_8 rfl ?_
  refine go_if_lt hC 37 dX2_contract_9 (by decide) (fun h9 => ?_) (fun h9 => ?_)
  ·
    exact hT _ _ _ _ _ _ "java/lang/IllegalArgumentException" "fixed, assured or most" _ (thF_t (by first | exact Or.inr (Or.inr (Or.inl h9)) | exact Or.inr (Or.inr (Or.inr (Or.inl h14))) | exact Or.inr (Or.inr (Or.inr (Or.inr (Or.inl h21)))) | exact Or.inr (Or.inr (Or.inr (Or.inr (Or.inr (Or.inl h34))))))) (by decide) (by decide) (by decide) (by decide) ltX2_contract_Ik ltX2_contract_Ii ltX2_contract_Ig rfl (by decide) (by decide) (by decide) (by decide) dX2_contract_37 dX2_contract_40 dX2_contract_41 dX2_contract_43 dX2_contract_46
  ·
    refine go_iload hC dX2_contract_12 rfl ?_
    refine go_if_lt hC 37 dX2_contract_14 (by decide) (fun h14 => ?_) (fun h14 => ?_)
    ·
      exact hT _ _ _ _ _ _ "java/lang/IllegalArgumentException" "fixed, assured or most" _ (thF_t (by first | exact Or.inr (Or.inr (Or.inl h9)) | exact Or.inr (Or.inr (Or.inr (Or.inl h14))) | exact Or.inr (Or.inr (Or.inr (Or.inr (Or.inl h21)))) | exact Or.inr (Or.inr (Or.inr (Or.inr (Or.inr (Or.inl h34))))))) (by decide) (by decide) (by decide) (by decide) ltX2_contract_Ik ltX2_contract_Ii ltX2_contract_Ig rfl (by decide) (by decide) (by decide) (by decide) dX2_contract_37 dX2_contract_40 dX2_contract_41 dX2_contract_43 dX2_contract_46
    ·
      refine go_iload hC dX2_contract_17 rfl ?_
      refine go_bipush (v := 60) hC dX2_contract_19 (by decide) ?_
      refine go_icmp_gt hC 37 dX2_contract_21 (by decide) (fun h21 => ?_) (fun h21 => ?_)
      ·
        exact hT _ _ _ _ _ _ "java/lang/IllegalArgumentException" "fixed, assured or most" _ (thF_t (by first | exact Or.inr (Or.inr (Or.inl h9)) | exact Or.inr (Or.inr (Or.inr (Or.inl h14))) | exact Or.inr (Or.inr (Or.inr (Or.inr (Or.inl h21)))) | exact Or.inr (Or.inr (Or.inr (Or.inr (Or.inr (Or.inl h34))))))) (by decide) (by decide) (by decide) (by decide) ltX2_contract_Ik ltX2_contract_Ii ltX2_contract_Ig rfl (by decide) (by decide) (by decide) (by decide) dX2_contract_37 dX2_contract_40 dX2_contract_41 dX2_contract_43 dX2_contract_46
      ·
        refine go_iload_n hC dX2_contract_24 rfl ?_
        refine go_i2l hC dX2_contract_25 ?_
        refine go_iload hC dX2_contract_26 rfl ?_
        refine go_i2l hC dX2_contract_28 ?_
        refine go_ladd hC dX2_contract_29 ?_
        refine go_iload hC dX2_contract_30 rfl ?_
        refine go_i2l hC dX2_contract_32 ?_
        refine go_lcmp hC dX2_contract_33 ?_
        refine go_if_le hC 47 dX2_contract_34 (by decide) (fun h34 => ?_) (fun h34 => ?_)
        ·
          refine go_iload hC dX2_contract_47 rfl ?_
          refine go_iconst (v := 1) hC dX2_contract_49 (by decide) ?_
          refine go_icmp_lt hC 60 dX2_contract_50 (by decide) (fun h50 => ?_) (fun h50 => ?_)
          ·
            exact hT _ _ _ _ _ _ "java/lang/IllegalArgumentException" "weight" _ (thF_t (by first | exact Or.inr (Or.inr (Or.inr (Or.inr (Or.inr (Or.inr (Or.inl h50)))))) | exact Or.inr (Or.inr (Or.inr (Or.inr (Or.inr (Or.inr (Or.inr h57)))))))) (by decide) (by decide) (by decide) (by decide) ltX2_contract_Ik ltX2_contract_Ii ltX2_contract_Ig rfl (by decide) (by decide) (by decide) (by decide) dX2_contract_60 dX2_contract_63 dX2_contract_64 dX2_contract_66 dX2_contract_69
          ·
            refine go_iload hC dX2_contract_53 rfl ?_
            refine go_bipush (v := 9) hC dX2_contract_55 (by decide) ?_
            refine go_icmp_le hC 70 dX2_contract_57 (by decide) (fun h57 => ?_) (fun h57 => ?_)
            ·
              have hnb : ¬ (aW M u ∨ bC c ∨ f < 0 ∨ a < 0 ∨ 60 < m ∨ ¬ lg_cmp (f.toInt64 + a.toInt64) m.toInt64 ≤ 0 ∨ g < 1 ∨ ¬ g ≤ 9) := fun q => q.elim (fun q => thF_none hn3 (Or.inl q)) (fun q => q.elim (fun q => thF_none hn3 (Or.inr q)) (fun q => q.elim h9 (fun q => q.elim h14 (fun q => q.elim h21 (fun q => q.elim (fun q => q h34) (fun q => q.elim h50 (fun q => q h57)))))))
              refine go_aload_n hC dX2_contract_70 rfl ?_
              refine go_callV (n := 0) (k0 := 2) (n0 := 0) hC hX (c_X2_contracted _) gX2_contract_X2_contracted rfl (by decide +kernel) ⟨rfl, rfl⟩ (by rw [hR]; exact ⟨by decide, by decide⟩) (by rw [hR]; exact ⟨by decide, by decide⟩) rfl rfl rfl (by first | decide | (show _ < 5; omega) | (show _ < 10; omega) | omega) rfl rfl rfl (Nat.le_of_ble_eq_true rfl) dX2_contract_71 ?_
              simp only [gm_r0, gm_r1]
              refine go_aload hC dX2_contract_74 rfl ?_
              refine go_geti (ci := 0) hC 4 kwX2_contract_0 rfl rfl (by decide) rfl lkX2_contract_84 (by first | decide | (show _ < 5; omega) | (show _ < 10; omega) | omega) dX2_contract_76 ?_
              refine go_isub hC dX2_contract_79 ?_
              refine go_aload hC dX2_contract_80 rfl ?_
              refine go_geti (ci := 0) hC 5 kwX2_contract_0 rfl rfl (by decide) rfl lkX2_contract_89 (by first | decide | (show _ < 5; omega) | (show _ < 10; omega) | omega) dX2_contract_82 ?_
              refine go_isub hC dX2_contract_85 ?_
              refine go_iload_n hC dX2_contract_86 rfl ?_
              refine go_iadd hC dX2_contract_87 ?_
              refine go_iload hC dX2_contract_88 rfl ?_
              refine go_iadd hC dX2_contract_90 ?_
              refine go_bipush (v := 55) hC dX2_contract_91 (by decide) ?_
              refine go_icmp_le hC 106 dX2_contract_93 (by decide) (fun h93 => ?_) (fun h93 => ?_)
              ·
                refine go_aload hC dX2_contract_106 rfl ?_
                refine go_iload_n hC dX2_contract_108 rfl ?_
                refine go_puti (ci := 0) hC 4 kwX2_contract_0 rfl tyX0 tyX0_ok nmX0 rfl (by decide) rfl lkX2_contract_84 (by first | decide | (show _ < 5; omega) | (show _ < 10; omega) | omega) rfl rfl rfl dX2_contract_109 ?_
                refine go_aload hC dX2_contract_112 rfl ?_
                refine go_iload hC dX2_contract_114 rfl ?_
                refine go_puti (ci := 0) hC 5 kwX2_contract_0 rfl tyX0 tyX0_ok nmX0 rfl (by decide) rfl lkX2_contract_89 (by first | decide | (show _ < 5; omega) | (show _ < 10; omega) | omega) rfl rfl rfl dX2_contract_116 ?_
                refine go_aload hC dX2_contract_119 rfl ?_
                refine go_iload hC dX2_contract_121 rfl ?_
                refine go_puti (ci := 0) hC 6 kwX2_contract_0 rfl tyX0 tyX0_ok nmX0 rfl (by decide) rfl lkX2_contract_94 (by first | decide | (show _ < 5; omega) | (show _ < 10; omega) | omega) rfl rfl rfl dX2_contract_123 ?_
                refine go_aload hC dX2_contract_126 rfl ?_
                refine go_iload hC dX2_contract_128 rfl ?_
                refine go_puti (ci := 0) hC 7 kwX2_contract_0 rfl tyX0 tyX0_ok nmX0 rfl (by decide) rfl lkX2_contract_97 (by first | decide | (show _ < 5; omega) | (show _ < 10; omega) | omega) rfl rfl rfl dX2_contract_130 ?_
                refine go_cast ?_ ?_ (hE _ _ _ _ (by decide) (by decide) ((thF_f hnb).trans (thF_f (fun q => q h93))) dX2_contract_133)
                · first | rfl | (simp [*]; done)
                · first | rfl | (simp [*]; done)
              ·
                exact hT _ _ _ _ _ _ "java/lang/IllegalStateException" "more than can be contracted" _ ((thF_f hnb).trans (thF_t h93)) (by decide) (by decide) (by decide) (by decide) ltX2_contract_Sk ltX2_contract_Si ltX2_contract_Sg rfl (by decide) (by decide) (by decide) (by decide) dX2_contract_96 dX2_contract_99 dX2_contract_100 dX2_contract_102 dX2_contract_105
            ·
              exact hT _ _ _ _ _ _ "java/lang/IllegalArgumentException" "weight" _ (thF_t (by first | exact Or.inr (Or.inr (Or.inr (Or.inr (Or.inr (Or.inr (Or.inl h50)))))) | exact Or.inr (Or.inr (Or.inr (Or.inr (Or.inr (Or.inr (Or.inr h57)))))))) (by decide) (by decide) (by decide) (by decide) ltX2_contract_Ik ltX2_contract_Ii ltX2_contract_Ig rfl (by decide) (by decide) (by decide) (by decide) dX2_contract_60 dX2_contract_63 dX2_contract_64 dX2_contract_66 dX2_contract_69
        ·
          exact hT _ _ _ _ _ _ "java/lang/IllegalArgumentException" "fixed, assured or most" _ (thF_t (by first | exact Or.inr (Or.inr (Or.inl h9)) | exact Or.inr (Or.inr (Or.inr (Or.inl h14))) | exact Or.inr (Or.inr (Or.inr (Or.inr (Or.inl h21)))) | exact Or.inr (Or.inr (Or.inr (Or.inr (Or.inr (Or.inl h34))))))) (by decide) (by decide) (by decide) (by decide) ltX2_contract_Ik ltX2_contract_Ii ltX2_contract_Ig rfl (by decide) (by decide) (by decide) (by decide) dX2_contract_37 dX2_contract_40 dX2_contract_41 dX2_contract_43 dX2_contract_46
def sdF (M : gm_M) (n q : Nat) (b : Int32) : gm_M := gm_up (cApp M n q (M 2 10 0) b) 2 10 0 (M 2 10 0 + 1)
theorem kwX2_send_0 : ∀ w ∈ wsX00, w ∈ wsX2_send := by decide +kernel
theorem kwX2_send_2 : ∀ w ∈ wsX20, w ∈ wsX2_send := by decide +kernel
theorem lkX2_send_106 : Cond.fieldLink RX2 106 "SharedFibre$Container" "queued" "I" ∈ wsX2_send := by decide +kernel
theorem lkX2_send_109 : Cond.fieldLink RX2 109 "SharedFibre" "datagrams" "I" ∈ wsX2_send := by decide +kernel
theorem ltX2_send_Ii : Cond.initialized "java/lang/IllegalArgumentException" ∈ wsX2_send := by decide +kernel
theorem ltX2_send_Ik : Cond.classLink RX2 37 "java/lang/IllegalArgumentException" ∈ wsX2_send := by decide +kernel
theorem ltX2_send_Si : Cond.initialized "java/lang/IllegalStateException" ∈ wsX2_send := by decide +kernel
theorem ltX2_send_Sk : Cond.classLink RX2 53 "java/lang/IllegalStateException" ∈ wsX2_send := by decide +kernel
theorem ltX2_send_Ig : ∀ w ∈ (xW 41 "java/lang/IllegalArgumentException").filter goodWord, w ∈ wsX2_send := by
  intro w h
  first | exact List.mem_cons_of_mem _ (List.mem_append_right _ h) | exact List.mem_cons_of_mem _ (List.mem_append_left _ (List.mem_append_right _ h)) | exact List.mem_cons_of_mem _ (List.mem_append_left _ (List.mem_append_left _ (List.mem_append_right _ h)))
theorem ltX2_send_Sg : ∀ w ∈ (xW 57 "java/lang/IllegalStateException").filter goodWord, w ∈ wsX2_send := by
  intro w h
  first | exact List.mem_cons_of_mem _ (List.mem_append_right _ h) | exact List.mem_cons_of_mem _ (List.mem_append_left _ (List.mem_append_right _ h)) | exact List.mem_cons_of_mem _ (List.mem_append_left _ (List.mem_append_left _ (List.mem_append_right _ h)))
set_option maxHeartbeats 4000000 in
set_option maxRecDepth 100000 in
/-- X2_send -/
theorem c_X2_send (M : gm_M) (u c b : Int32) (q : Nat → Nat) (hq : ∀ n, n < 10 → M 0 2 n = nI (q n) ∧ q n ≤ 8) : KX lyC yX2_send wsX2_send ({ frames := 9, cells := 4, slots := 24, locals := 155 }) (fun ad => [.ref (ad 2 0), .int u, .int c, .int b]) M (thF (aW M u ∨ bC c ∨ b < 1 ∨ ¬ b ≤ 20) "java/lang/IllegalArgumentException" (thF (M 0 2 (2 * uN u + uN c) = 8 ∨ M 2 10 0 = 100) "java/lang/IllegalStateException" none)) (fun _ => some (.int (M 2 10 0))) (sdF M (2 * uN u + uN c) (q (2 * uN u + uN c)) b) 4 24 := by
  refine KX.of_i (by decide) rfl rfl (fun _ => by simp) (fun _ => by simp [Value.category])  ?_
  intro X hC hR hSX hE hT
  have hX := hSX.nx
  simp only [List.map_cons, List.map_nil, List.cons_append, List.nil_append, List.length_cons, List.length_nil, List.replicate, Nat.reduceAdd, Nat.reduceSub]
  refine go_aload_n hC dX2_send_0 rfl ?_
  refine go_iload_n hC dX2_send_1 rfl ?_
  refine go_iload_n hC dX2_send_2 rfl ?_
  refine go_callVX (n := 2) (k0 := 2) (n0 := 0) hC hSX (c_X2_pluggedContainer M u c) gX2_send_X2_pluggedContainer rfl (by decide +kernel) ⟨rfl, rfl⟩ (by rw [hR]; exact ⟨by decide, by decide⟩) (by rw [hR]; exact ⟨by decide, by decide⟩) rfl (by decide) (by decide) rfl rfl (by first | decide | (show _ < 5; omega) | (show _ < 10; omega) | omega) rfl rfl rfl (Nat.le_of_ble_eq_true rfl) dX2_send_3 (fun E h => by obtain ⟨hp, rfl⟩ := thF_some h; exact thF_t (hp.elim (fun q => Or.inl q) (fun q => Or.inr (Or.inl q)))) (fun hn3 => ?_)
  simp only [gm_r0, gm_r1]
  obtain ⟨hue, hu5⟩ := bU_ix (fun q => thF_none hn3 (Or.inl (Or.inl q)))
  obtain ⟨hce, hc2⟩ := bC_ix (fun q => thF_none hn3 (Or.inr q))
  refine go_astore hC dX2_send_6 (Nat.le_of_ble_eq_true rfl) ?_
  simp only [gm_s0, gm_s1]
  refine go_iload_n hC dX2_send_8 rfl ?_
  refine go_iconst (v := 1) hC dX2_send_9 (by decide) ?_
  refine go_icmp_lt hC 19 dX2_send_10 (by decide) (fun h10 => ?_) (fun h10 => ?_)
  ·
    exact hT _ _ _ _ _ _ "java/lang/IllegalArgumentException" "blocks" _ (thF_t (by first | exact Or.inr (Or.inr (Or.inl h10)) | exact Or.inr (Or.inr (Or.inr h16)))) (by decide) (by decide) (by decide) (by decide) ltX2_send_Ik ltX2_send_Ii ltX2_send_Ig rfl (by decide) (by decide) (by decide) (by decide) dX2_send_19 dX2_send_22 dX2_send_23 dX2_send_25 dX2_send_28
  ·
    refine go_iload_n hC dX2_send_13 rfl ?_
    refine go_bipush (v := 20) hC dX2_send_14 (by decide) ?_
    refine go_icmp_le hC 29 dX2_send_16 (by decide) (fun h16 => ?_) (fun h16 => ?_)
    ·
      have hnb : ¬ (aW M u ∨ bC c ∨ b < 1 ∨ ¬ b ≤ 20) := fun q => q.elim (fun q => thF_none hn3 (Or.inl q)) (fun q => q.elim (fun q => thF_none hn3 (Or.inr q)) (fun q => q.elim h10 (fun q => q h16)))
      refine go_aload hC dX2_send_29 rfl ?_
      refine go_geti (ci := 0) hC 2 kwX2_send_0 rfl rfl (by decide) rfl lkX2_send_106 (by first | decide | (show _ < 5; omega) | (show _ < 10; omega) | omega) dX2_send_31 ?_
      refine go_bipush (v := 8) hC dX2_send_34 (by decide) ?_
      refine go_icmp_eq hC 48 dX2_send_36 (by decide) (fun h36 => ?_) (fun h36 => ?_)
      ·
        exact hT _ _ _ _ _ _ "java/lang/IllegalStateException" "no room for a datagram" _ ((thF_f hnb).trans (thF_t (by first | exact Or.inl h36 | exact Or.inr h45))) (by decide) (by decide) (by decide) (by decide) ltX2_send_Sk ltX2_send_Si ltX2_send_Sg rfl (by decide) (by decide) (by decide) (by decide) dX2_send_48 dX2_send_51 dX2_send_52 dX2_send_54 dX2_send_57
      ·
        refine go_aload_n hC dX2_send_39 rfl ?_
        refine go_geti (ci := 2) hC 10 kwX2_send_2 rfl rfl (by decide) rfl lkX2_send_109 (by first | decide | (show _ < 5; omega) | (show _ < 10; omega) | omega) dX2_send_40 ?_
        refine go_bipush (v := 100) hC dX2_send_43 (by decide) ?_
        refine go_icmp_ne hC 58 dX2_send_45 (by decide) (fun h45 => ?_) (fun h45 => ?_)
        ·
          refine go_aload hC dX2_send_58 rfl ?_
          refine go_aload_n hC dX2_send_60 rfl ?_
          refine go_geti (ci := 2) hC 10 kwX2_send_2 rfl rfl (by decide) rfl lkX2_send_109 (by first | decide | (show _ < 5; omega) | (show _ < 10; omega) | omega) dX2_send_61 ?_
          refine go_iload_n hC dX2_send_64 rfl ?_
          have hq8 : q (2 * uN u + uN c) < 8 := by
            have := (hq (2 * uN u + uN c) (by omega)).2
            have h2 : q (2 * uN u + uN c) ≠ 8 := fun e => h36 (by rw [(hq (2 * uN u + uN c) (by omega)).1, e]; decide)
            omega
          refine go_callV (n := 2) (k0 := 0) (n0 := (2 * uN u + uN c)) hC hX (c_X0_append _ _ (q (2 * uN u + uN c)) (by omega) (hq (2 * uN u + uN c) (by omega)).1 hq8 _ _) gX2_send_X0_append rfl (by decide +kernel) ⟨rfl, rfl⟩ (by rw [hR]; exact ⟨by decide, by decide⟩) (by rw [hR]; exact ⟨by decide, by decide⟩) rfl rfl rfl (by first | decide | (show _ < 5; omega) | (show _ < 10; omega) | omega) rfl rfl rfl (Nat.le_of_ble_eq_true rfl) dX2_send_65 ?_
          simp only [gm_r0, gm_r1]
          refine go_aload_n hC dX2_send_68 rfl ?_
          refine go_dup hC dX2_send_69 rfl ?_
          refine go_geti (ci := 2) hC 10 kwX2_send_2 rfl rfl (by decide) rfl lkX2_send_109 (by first | decide | (show _ < 5; omega) | (show _ < 10; omega) | omega) dX2_send_70 ?_
          refine go_dup_x1 hC dX2_send_73 rfl rfl ?_
          refine go_iconst (v := 1) hC dX2_send_74 (by decide) ?_
          refine go_iadd hC dX2_send_75 ?_
          refine go_puti (ci := 2) hC 10 kwX2_send_2 rfl tyX2 tyX2_ok nmX2 rfl (by decide) rfl lkX2_send_109 (by first | decide | (show _ < 5; omega) | (show _ < 10; omega) | omega) rfl rfl rfl dX2_send_76 ?_
          refine go_cast ?_ ?_ (hE _ _ _ _ (by decide) (by decide) ((thF_f hnb).trans (thF_f (fun q => q.elim h36 h45))) dX2_send_79)
          · simp only [cApp, gm_un1 (show (2 : Nat) ≠ 0 by decide), gm_un1 (show (2 : Nat) ≠ 10 by decide), gm_un1 (show (2 : Nat) ≠ 11 by decide)]
          · simp only [sdF, cApp, gm_un1 (show (2 : Nat) ≠ 0 by decide), gm_un1 (show (2 : Nat) ≠ 10 by decide), gm_un1 (show (2 : Nat) ≠ 11 by decide)]
        ·
          exact hT _ _ _ _ _ _ "java/lang/IllegalStateException" "no room for a datagram" _ ((thF_f hnb).trans (thF_t (by first | exact Or.inl h36 | exact Or.inr h45))) (by decide) (by decide) (by decide) (by decide) ltX2_send_Sk ltX2_send_Si ltX2_send_Sg rfl (by decide) (by decide) (by decide) (by decide) dX2_send_48 dX2_send_51 dX2_send_52 dX2_send_54 dX2_send_57
    ·
      exact hT _ _ _ _ _ _ "java/lang/IllegalArgumentException" "blocks" _ (thF_t (by first | exact Or.inr (Or.inr (Or.inl h10)) | exact Or.inr (Or.inr (Or.inr h16)))) (by decide) (by decide) (by decide) (by decide) ltX2_send_Ik ltX2_send_Ii ltX2_send_Ig rfl (by decide) (by decide) (by decide) (by decide) dX2_send_19 dX2_send_22 dX2_send_23 dX2_send_25 dX2_send_28
theorem kwX2_came_2 : ∀ w ∈ wsX20, w ∈ wsX2_came := by decide +kernel
theorem lkX2_came_19 : Cond.fieldLink RX2 19 "SharedFibre" "arrivals" "[I" ∈ wsX2_came := by decide +kernel
theorem lkX2_came_158 : Cond.fieldLink RX2 158 "SharedFibre" "arrived" "I" ∈ wsX2_came := by decide +kernel
theorem ltX2_came_Bi : Cond.initialized "java/lang/IndexOutOfBoundsException" ∈ wsX2_came := by decide +kernel
theorem ltX2_came_Bk : Cond.classLink RX2 215 "java/lang/IndexOutOfBoundsException" ∈ wsX2_came := by decide +kernel
theorem ltX2_came_Ii : Cond.initialized "java/lang/IllegalArgumentException" ∈ wsX2_came := by decide +kernel
theorem ltX2_came_Ik : Cond.classLink RX2 37 "java/lang/IllegalArgumentException" ∈ wsX2_came := by decide +kernel
theorem ltX2_came_Bg : ∀ w ∈ (xW 219 "java/lang/IndexOutOfBoundsException").filter goodWord, w ∈ wsX2_came := by
  intro w h
  first | exact List.mem_cons_of_mem _ (List.mem_append_right _ h) | exact List.mem_cons_of_mem _ (List.mem_append_left _ (List.mem_append_right _ h)) | exact List.mem_cons_of_mem _ (List.mem_append_left _ (List.mem_append_left _ (List.mem_append_right _ h)))
theorem ltX2_came_Ig : ∀ w ∈ (xW 41 "java/lang/IllegalArgumentException").filter goodWord, w ∈ wsX2_came := by
  intro w h
  first | exact List.mem_cons_of_mem _ (List.mem_append_right _ h) | exact List.mem_cons_of_mem _ (List.mem_append_left _ (List.mem_append_right _ h)) | exact List.mem_cons_of_mem _ (List.mem_append_left _ (List.mem_append_left _ (List.mem_append_right _ h)))
set_option maxHeartbeats 4000000 in
set_option maxRecDepth 100000 in
/-- X2_came -/
theorem c_X2_came (M : gm_M) (k y : Int32) (a : Nat) (ha : M 2 11 0 = nI a) (ha1 : a ≤ 100) : KX lyC yX2_came wsX2_came ({ frames := 6, cells := 1, slots := 6, locals := 90 }) (fun ad => [.ref (ad 2 0), .int k, .int y]) M (thF (k < 0 ∨ ¬ k < M 2 11 0) "java/lang/IndexOutOfBoundsException" (thF (y < 0 ∨ ¬ y < 4) "java/lang/IllegalArgumentException" none)) (fun _ => some (.int (M 5 (4 * uN k + uN y) 0))) (M) 1 6 := by
  refine KX.of_i (by decide) rfl rfl (fun _ => by simp) (fun _ => by simp [Value.category])  ?_
  intro X hC hR hSX hE hT
  have hX := hSX.nx
  simp only [List.map_cons, List.map_nil, List.cons_append, List.nil_append, List.length_cons, List.length_nil, List.replicate, Nat.reduceAdd, Nat.reduceSub]
  refine go_iload_n hC dX2_came_0 rfl ?_
  refine go_if_lt hC 12 dX2_came_1 (by decide) (fun h1 => ?_) (fun h1 => ?_)
  ·
    exact hT _ _ _ _ _ _ "java/lang/IndexOutOfBoundsException" "k" _ (thF_t (by first | exact Or.inl h1 | exact Or.inr h9)) (by decide) (by decide) (by decide) (by decide) ltX2_came_Bk ltX2_came_Bi ltX2_came_Bg rfl (by decide) (by decide) (by decide) (by decide) dX2_came_12 dX2_came_15 dX2_came_16 dX2_came_18 dX2_came_21
  ·
    refine go_iload_n hC dX2_came_4 rfl ?_
    refine go_aload_n hC dX2_came_5 rfl ?_
    refine go_geti (ci := 2) hC 11 kwX2_came_2 rfl rfl (by decide) rfl lkX2_came_158 (by first | decide | (show _ < 5; omega) | (show _ < 10; omega) | omega) dX2_came_6 ?_
    refine go_icmp_lt hC 22 dX2_came_9 (by decide) (fun h9 => ?_) (fun h9 => ?_)
    ·
      have hnk : ¬ (k < 0 ∨ ¬ k < M 2 11 0) := fun q => q.elim h1 (fun q => q h9)
      obtain ⟨hke, hka⟩ := ixN (u := k) a (by omega) h1 (by rw [← ha]; exact h9)
      refine go_iload_n hC dX2_came_22 rfl ?_
      refine go_if_lt hC 31 dX2_came_23 (by decide) (fun h23 => ?_) (fun h23 => ?_)
      ·
        exact hT _ _ _ _ _ _ "java/lang/IllegalArgumentException" "what" _ ((thF_f hnk).trans (thF_t (by first | exact Or.inl h23 | exact Or.inr h28))) (by decide) (by decide) (by decide) (by decide) ltX2_came_Ik ltX2_came_Ii ltX2_came_Ig rfl (by decide) (by decide) (by decide) (by decide) dX2_came_31 dX2_came_34 dX2_came_35 dX2_came_37 dX2_came_40
      ·
        refine go_iload_n hC dX2_came_26 rfl ?_
        refine go_iconst (v := 4) hC dX2_came_27 (by decide) ?_
        refine go_icmp_lt hC 41 dX2_came_28 (by decide) (fun h28 => ?_) (fun h28 => ?_)
        ·
          have hnw : ¬ (y < 0 ∨ ¬ y < 4) := fun q => q.elim h23 (fun q => q h28)
          obtain ⟨hye, hy4⟩ := ixN (u := y) 4 (by decide) h23 h28
          have hix : k * 4 + y = nI (4 * uN k + uN y) := by rw [← nI_add, ← hye, Nat.mul_comm]; congr 1; exact (congrArg (· * 4) hke).trans (pk_mul (uN k) 4)
          refine go_aload_n hC dX2_came_41 rfl ?_
          refine go_getr (ci := 2) hC 2 kwX2_came_2 rfl rfl (by decide) rfl lkX2_came_19 (by first | decide | (show _ < 5; omega) | (show _ < 10; omega) | omega) dX2_came_42 ?_
          refine go_iload_n hC dX2_came_45 rfl ?_
          refine go_iconst (v := 4) hC dX2_came_46 (by decide) ?_
          refine go_imul hC dX2_came_47 ?_
          refine go_iload_n hC dX2_came_48 rfl ?_
          refine go_iadd hC dX2_came_49 ?_
          refine go_iald hC rfl (by first | decide | (show _ < 5; omega) | (show _ < 10; omega) | omega) (gm_in hix (by omega) (by decide)) (gm_cl hix (by omega)) dX2_came_50 ?_
          refine go_cast ?_ ?_ (hE _ _ _ _ (by decide) (by decide) ((thF_f hnk).trans (thF_f hnw)) dX2_came_51)
          · first | rfl | (simp [*]; done)
          · first | rfl | (simp [*]; done)
        ·
          exact hT _ _ _ _ _ _ "java/lang/IllegalArgumentException" "what" _ ((thF_f hnk).trans (thF_t (by first | exact Or.inl h23 | exact Or.inr h28))) (by decide) (by decide) (by decide) (by decide) ltX2_came_Ik ltX2_came_Ii ltX2_came_Ig rfl (by decide) (by decide) (by decide) (by decide) dX2_came_31 dX2_came_34 dX2_came_35 dX2_came_37 dX2_came_40
    ·
      exact hT _ _ _ _ _ _ "java/lang/IndexOutOfBoundsException" "k" _ (thF_t (by first | exact Or.inl h1 | exact Or.inr h9)) (by decide) (by decide) (by decide) (by decide) ltX2_came_Bk ltX2_came_Bi ltX2_came_Bg rfl (by decide) (by decide) (by decide) (by decide) dX2_came_12 dX2_came_15 dX2_came_16 dX2_came_18 dX2_came_21
def coF (M : gm_M) (y : Int32) : Int32 := if y = 0 then M 2 11 0 else if y = 1 then M 2 12 0 else if y = 2 then M 2 9 0 else if y = 3 then M 2 6 0 else if y = 4 then M 2 13 0 else if y = 5 then M 2 14 0 else M 2 15 0
theorem kwX2_count_2 : ∀ w ∈ wsX20, w ∈ wsX2_count := by decide +kernel
theorem lkX2_count_143 : Cond.fieldLink RX2 143 "SharedFibre" "frames" "I" ∈ wsX2_count := by decide +kernel
theorem lkX2_count_146 : Cond.fieldLink RX2 146 "SharedFibre" "active" "I" ∈ wsX2_count := by decide +kernel
theorem lkX2_count_158 : Cond.fieldLink RX2 158 "SharedFibre" "arrived" "I" ∈ wsX2_count := by decide +kernel
theorem lkX2_count_220 : Cond.fieldLink RX2 220 "SharedFibre" "lost" "I" ∈ wsX2_count := by decide +kernel
theorem lkX2_count_223 : Cond.fieldLink RX2 223 "SharedFibre" "met" "I" ∈ wsX2_count := by decide +kernel
theorem lkX2_count_226 : Cond.fieldLink RX2 226 "SharedFibre" "notGiven" "I" ∈ wsX2_count := by decide +kernel
theorem lkX2_count_229 : Cond.fieldLink RX2 229 "SharedFibre" "strayed" "I" ∈ wsX2_count := by decide +kernel
theorem ltX2_count_Ii : Cond.initialized "java/lang/IllegalArgumentException" ∈ wsX2_count := by decide +kernel
theorem ltX2_count_Ik : Cond.classLink RX2 37 "java/lang/IllegalArgumentException" ∈ wsX2_count := by decide +kernel
theorem ltX2_count_Ig : ∀ w ∈ (xW 41 "java/lang/IllegalArgumentException").filter goodWord, w ∈ wsX2_count := by
  intro w h
  first | exact List.mem_cons_of_mem _ (List.mem_append_right _ h) | exact List.mem_cons_of_mem _ (List.mem_append_left _ (List.mem_append_right _ h)) | exact List.mem_cons_of_mem _ (List.mem_append_left _ (List.mem_append_left _ (List.mem_append_right _ h)))
set_option maxHeartbeats 4000000 in
set_option maxRecDepth 100000 in
/-- X2_count -/
theorem c_X2_count (M : gm_M) (y : Int32) : KX lyC yX2_count wsX2_count ({ frames := 6, cells := 1, slots := 6, locals := 90 }) (fun ad => [.ref (ad 2 0), .int y]) M (thF (y.toInt < 0 ∨ (6 : Int) < y.toInt) "java/lang/IllegalArgumentException" none) (fun _ => some (.int (coF M y))) (M) 1 6 := by
  refine KX.of_i (by decide) rfl rfl (fun _ => by simp) (fun _ => by simp [Value.category])  ?_
  intro X hC hR hSX hE hT
  have hX := hSX.nx
  simp only [List.map_cons, List.map_nil, List.cons_append, List.nil_append, List.length_cons, List.length_nil, List.replicate, Nat.reduceAdd, Nat.reduceSub]
  refine go_iload_n hC dX2_count_0 rfl ?_
  by_cases w0 : y = 0
  ·
    subst w0
    refine go_tabIn (off := 43) hC 44 dX2_count_1 (by decide) (by decide) (by decide) (by decide) ?_
    refine go_aload_n hC dX2_count_44 rfl ?_
    refine go_geti (ci := 2) hC 11 kwX2_count_2 rfl rfl (by decide) rfl lkX2_count_158 (by first | decide | (show _ < 5; omega) | (show _ < 10; omega) | omega) dX2_count_45 ?_
    refine go_cast ?_ rfl (hE _ _ _ _ (by decide) (by decide) (thF_f (by decide)) dX2_count_48)
    rfl
  by_cases w1 : y = 1
  ·
    subst w1
    refine go_tabIn (off := 48) hC 49 dX2_count_1 (by decide) (by decide) (by decide) (by decide) ?_
    refine go_aload_n hC dX2_count_49 rfl ?_
    refine go_geti (ci := 2) hC 12 kwX2_count_2 rfl rfl (by decide) rfl lkX2_count_220 (by first | decide | (show _ < 5; omega) | (show _ < 10; omega) | omega) dX2_count_50 ?_
    refine go_cast ?_ rfl (hE _ _ _ _ (by decide) (by decide) (thF_f (by decide)) dX2_count_53)
    rfl
  by_cases w2 : y = 2
  ·
    subst w2
    refine go_tabIn (off := 53) hC 54 dX2_count_1 (by decide) (by decide) (by decide) (by decide) ?_
    refine go_aload_n hC dX2_count_54 rfl ?_
    refine go_geti (ci := 2) hC 9 kwX2_count_2 rfl rfl (by decide) rfl lkX2_count_143 (by first | decide | (show _ < 5; omega) | (show _ < 10; omega) | omega) dX2_count_55 ?_
    refine go_cast ?_ rfl (hE _ _ _ _ (by decide) (by decide) (thF_f (by decide)) dX2_count_58)
    rfl
  by_cases w3 : y = 3
  ·
    subst w3
    refine go_tabIn (off := 58) hC 59 dX2_count_1 (by decide) (by decide) (by decide) (by decide) ?_
    refine go_aload_n hC dX2_count_59 rfl ?_
    refine go_geti (ci := 2) hC 6 kwX2_count_2 rfl rfl (by decide) rfl lkX2_count_146 (by first | decide | (show _ < 5; omega) | (show _ < 10; omega) | omega) dX2_count_60 ?_
    refine go_cast ?_ rfl (hE _ _ _ _ (by decide) (by decide) (thF_f (by decide)) dX2_count_63)
    rfl
  by_cases w4 : y = 4
  ·
    subst w4
    refine go_tabIn (off := 63) hC 64 dX2_count_1 (by decide) (by decide) (by decide) (by decide) ?_
    refine go_aload_n hC dX2_count_64 rfl ?_
    refine go_geti (ci := 2) hC 13 kwX2_count_2 rfl rfl (by decide) rfl lkX2_count_223 (by first | decide | (show _ < 5; omega) | (show _ < 10; omega) | omega) dX2_count_65 ?_
    refine go_cast ?_ rfl (hE _ _ _ _ (by decide) (by decide) (thF_f (by decide)) dX2_count_68)
    rfl
  by_cases w5 : y = 5
  ·
    subst w5
    refine go_tabIn (off := 68) hC 69 dX2_count_1 (by decide) (by decide) (by decide) (by decide) ?_
    refine go_aload_n hC dX2_count_69 rfl ?_
    refine go_geti (ci := 2) hC 14 kwX2_count_2 rfl rfl (by decide) rfl lkX2_count_226 (by first | decide | (show _ < 5; omega) | (show _ < 10; omega) | omega) dX2_count_70 ?_
    refine go_cast ?_ rfl (hE _ _ _ _ (by decide) (by decide) (thF_f (by decide)) dX2_count_73)
    rfl
  by_cases w6 : y = 6
  ·
    subst w6
    refine go_tabIn (off := 73) hC 74 dX2_count_1 (by decide) (by decide) (by decide) (by decide) ?_
    refine go_aload_n hC dX2_count_74 rfl ?_
    refine go_geti (ci := 2) hC 15 kwX2_count_2 rfl rfl (by decide) rfl lkX2_count_229 (by first | decide | (show _ < 5; omega) | (show _ < 10; omega) | omega) dX2_count_75 ?_
    refine go_cast ?_ rfl (hE _ _ _ _ (by decide) (by decide) (thF_f (by decide)) dX2_count_78)
    rfl
  have hsw := swOut y 6 (by decide) (fun k hk => by rcases (show k = 0 ∨ k = 1 ∨ k = 2 ∨ k = 3 ∨ k = 4 ∨ k = 5 ∨ k = 6 by omega) with rfl | rfl | rfl | rfl | rfl | rfl | rfl; exact w0; exact w1; exact w2; exact w3; exact w4; exact w5; exact w6)
  refine go_tabOut hC 79 dX2_count_1 hsw (by decide) ?_
  exact hT _ _ _ _ _ _ "java/lang/IllegalArgumentException" "which" _ (thF_t hsw) (by decide) (by decide) (by decide) (by decide) ltX2_count_Ik ltX2_count_Ii ltX2_count_Ig rfl (by decide) (by decide) (by decide) (by decide) dX2_count_79 dX2_count_82 dX2_count_83 dX2_count_85 dX2_count_88
def unF (M : gm_M) (n : Nat) (y : Int32) : Int32 := if y = 0 then M 1 1 n else if y = 1 then M 1 5 n else if y = 2 then M 1 6 n else if y = 3 then M 1 9 n else if y = 4 then M 1 12 n else if y = 5 then M 1 13 n else M 1 4 n
theorem kwX2_unit_1 : ∀ w ∈ wsX10, w ∈ wsX2_unit := by decide +kernel
theorem lkX2_unit_58 : Cond.fieldLink RX2 58 "SharedFibre$Unit" "state" "I" ∈ wsX2_unit := by decide +kernel
theorem lkX2_unit_101 : Cond.fieldLink RX2 101 "SharedFibre$Unit" "error" "I" ∈ wsX2_unit := by decide +kernel
theorem lkX2_unit_185 : Cond.fieldLink RX2 185 "SharedFibre$Unit" "keyInForce" "I" ∈ wsX2_unit := by decide +kernel
theorem lkX2_unit_188 : Cond.fieldLink RX2 188 "SharedFibre$Unit" "toldKey" "I" ∈ wsX2_unit := by decide +kernel
theorem lkX2_unit_191 : Cond.fieldLink RX2 191 "SharedFibre$Unit" "madeOut" "I" ∈ wsX2_unit := by decide +kernel
theorem lkX2_unit_194 : Cond.fieldLink RX2 194 "SharedFibre$Unit" "sentAs" "I" ∈ wsX2_unit := by decide +kernel
theorem lkX2_unit_197 : Cond.fieldLink RX2 197 "SharedFibre$Unit" "answered" "I" ∈ wsX2_unit := by decide +kernel
theorem ltX2_unit_Ii : Cond.initialized "java/lang/IllegalArgumentException" ∈ wsX2_unit := by decide +kernel
theorem ltX2_unit_Ik : Cond.classLink RX2 37 "java/lang/IllegalArgumentException" ∈ wsX2_unit := by decide +kernel
theorem ltX2_unit_Ig : ∀ w ∈ (xW 41 "java/lang/IllegalArgumentException").filter goodWord, w ∈ wsX2_unit := by
  intro w h
  first | exact List.mem_cons_of_mem _ (List.mem_append_right _ h) | exact List.mem_cons_of_mem _ (List.mem_append_left _ (List.mem_append_right _ h)) | exact List.mem_cons_of_mem _ (List.mem_append_left _ (List.mem_append_left _ (List.mem_append_right _ h)))
set_option maxHeartbeats 4000000 in
set_option maxRecDepth 100000 in
/-- X2_unit -/
theorem c_X2_unit (M : gm_M) (u y : Int32) : KX lyC yX2_unit wsX2_unit ({ frames := 7, cells := 2, slots := 12, locals := 111 }) (fun ad => [.ref (ad 2 0), .int u, .int y]) M (thF (bU u ∨ (y.toInt < 0 ∨ (6 : Int) < y.toInt)) "java/lang/IllegalArgumentException" none) (fun _ => some (.int (unF M (uN u) y))) (M) 2 12 := by
  refine KX.of_i (by decide) rfl rfl (fun _ => by simp) (fun _ => by simp [Value.category])  ?_
  intro X hC hR hSX hE hT
  have hX := hSX.nx
  simp only [List.map_cons, List.map_nil, List.cons_append, List.nil_append, List.length_cons, List.length_nil, List.replicate, Nat.reduceAdd, Nat.reduceSub]
  refine go_aload_n hC dX2_unit_0 rfl ?_
  refine go_iload_n hC dX2_unit_1 rfl ?_
  refine go_callVX (n := 1) (k0 := 2) (n0 := 0) hC hSX (c_X2_numbered M u) gX2_unit_X2_numbered rfl (by decide +kernel) ⟨rfl, rfl⟩ (by rw [hR]; exact ⟨by decide, by decide⟩) (by rw [hR]; exact ⟨by decide, by decide⟩) rfl (by decide) (by decide) rfl rfl (by first | decide | (show _ < 5; omega) | (show _ < 10; omega) | omega) rfl rfl rfl (Nat.le_of_ble_eq_true rfl) dX2_unit_2 (fun E h => by obtain ⟨hp, rfl⟩ := thF_some h; exact thF_t (Or.inl hp)) (fun hn2 => ?_)
  simp only [gm_r0, gm_r1]
  obtain ⟨hue, hu5⟩ := bU_ix (thF_none hn2)
  refine go_astore_n hC 3 dX2_unit_5 rfl (Nat.le_of_ble_eq_true rfl) ?_
  simp only [gm_s0, gm_s1]
  refine go_iload_n hC dX2_unit_6 rfl ?_
  by_cases w0 : y = 0
  ·
    subst w0
    refine go_tabIn (off := 41) hC 48 dX2_unit_7 (by decide) (by decide) (by decide) (by decide) ?_
    refine go_aload_n hC dX2_unit_48 rfl ?_
    refine go_geti (ci := 1) hC 1 kwX2_unit_1 rfl rfl (by decide) rfl lkX2_unit_58 (by first | decide | (show _ < 5; omega) | (show _ < 10; omega) | omega) dX2_unit_49 ?_
    refine go_cast ?_ rfl (hE _ _ _ _ (by decide) (by decide) (thF_f (fun q => q.elim (thF_none hn2) (by decide))) dX2_unit_52)
    rfl
  by_cases w1 : y = 1
  ·
    subst w1
    refine go_tabIn (off := 46) hC 53 dX2_unit_7 (by decide) (by decide) (by decide) (by decide) ?_
    refine go_aload_n hC dX2_unit_53 rfl ?_
    refine go_geti (ci := 1) hC 5 kwX2_unit_1 rfl rfl (by decide) rfl lkX2_unit_101 (by first | decide | (show _ < 5; omega) | (show _ < 10; omega) | omega) dX2_unit_54 ?_
    refine go_cast ?_ rfl (hE _ _ _ _ (by decide) (by decide) (thF_f (fun q => q.elim (thF_none hn2) (by decide))) dX2_unit_57)
    rfl
  by_cases w2 : y = 2
  ·
    subst w2
    refine go_tabIn (off := 51) hC 58 dX2_unit_7 (by decide) (by decide) (by decide) (by decide) ?_
    refine go_aload_n hC dX2_unit_58 rfl ?_
    refine go_geti (ci := 1) hC 6 kwX2_unit_1 rfl rfl (by decide) rfl lkX2_unit_185 (by first | decide | (show _ < 5; omega) | (show _ < 10; omega) | omega) dX2_unit_59 ?_
    refine go_cast ?_ rfl (hE _ _ _ _ (by decide) (by decide) (thF_f (fun q => q.elim (thF_none hn2) (by decide))) dX2_unit_62)
    rfl
  by_cases w3 : y = 3
  ·
    subst w3
    refine go_tabIn (off := 56) hC 63 dX2_unit_7 (by decide) (by decide) (by decide) (by decide) ?_
    refine go_aload_n hC dX2_unit_63 rfl ?_
    refine go_geti (ci := 1) hC 9 kwX2_unit_1 rfl rfl (by decide) rfl lkX2_unit_188 (by first | decide | (show _ < 5; omega) | (show _ < 10; omega) | omega) dX2_unit_64 ?_
    refine go_cast ?_ rfl (hE _ _ _ _ (by decide) (by decide) (thF_f (fun q => q.elim (thF_none hn2) (by decide))) dX2_unit_67)
    rfl
  by_cases w4 : y = 4
  ·
    subst w4
    refine go_tabIn (off := 61) hC 68 dX2_unit_7 (by decide) (by decide) (by decide) (by decide) ?_
    refine go_aload_n hC dX2_unit_68 rfl ?_
    refine go_geti (ci := 1) hC 12 kwX2_unit_1 rfl rfl (by decide) rfl lkX2_unit_191 (by first | decide | (show _ < 5; omega) | (show _ < 10; omega) | omega) dX2_unit_69 ?_
    refine go_cast ?_ rfl (hE _ _ _ _ (by decide) (by decide) (thF_f (fun q => q.elim (thF_none hn2) (by decide))) dX2_unit_72)
    rfl
  by_cases w5 : y = 5
  ·
    subst w5
    refine go_tabIn (off := 66) hC 73 dX2_unit_7 (by decide) (by decide) (by decide) (by decide) ?_
    refine go_aload_n hC dX2_unit_73 rfl ?_
    refine go_geti (ci := 1) hC 13 kwX2_unit_1 rfl rfl (by decide) rfl lkX2_unit_194 (by first | decide | (show _ < 5; omega) | (show _ < 10; omega) | omega) dX2_unit_74 ?_
    refine go_cast ?_ rfl (hE _ _ _ _ (by decide) (by decide) (thF_f (fun q => q.elim (thF_none hn2) (by decide))) dX2_unit_77)
    rfl
  by_cases w6 : y = 6
  ·
    subst w6
    refine go_tabIn (off := 71) hC 78 dX2_unit_7 (by decide) (by decide) (by decide) (by decide) ?_
    refine go_aload_n hC dX2_unit_78 rfl ?_
    refine go_geti (ci := 1) hC 4 kwX2_unit_1 rfl rfl (by decide) rfl lkX2_unit_197 (by first | decide | (show _ < 5; omega) | (show _ < 10; omega) | omega) dX2_unit_79 ?_
    refine go_cast ?_ rfl (hE _ _ _ _ (by decide) (by decide) (thF_f (fun q => q.elim (thF_none hn2) (by decide))) dX2_unit_82)
    rfl
  have hsw := swOut y 6 (by decide) (fun k hk => by rcases (show k = 0 ∨ k = 1 ∨ k = 2 ∨ k = 3 ∨ k = 4 ∨ k = 5 ∨ k = 6 by omega) with rfl | rfl | rfl | rfl | rfl | rfl | rfl; exact w0; exact w1; exact w2; exact w3; exact w4; exact w5; exact w6)
  refine go_tabOut hC 83 dX2_unit_7 hsw (by decide) ?_
  exact hT _ _ _ _ _ _ "java/lang/IllegalArgumentException" "what" _ (thF_t (Or.inr hsw)) (by decide) (by decide) (by decide) (by decide) ltX2_unit_Ik ltX2_unit_Ii ltX2_unit_Ig rfl (by decide) (by decide) (by decide) (by decide) dX2_unit_83 dX2_unit_86 dX2_unit_87 dX2_unit_89 dX2_unit_92
def cnF (M : gm_M) (n q : Nat) (y : Int32) : Int32 := if y = 0 then bx_sum (fun k => M 11 k n) q else if y = 1 then M 0 8 n else if y = 2 then M 0 9 n else M 0 2 n
theorem kwX2_container_0 : ∀ w ∈ wsX00, w ∈ wsX2_container := by decide +kernel
theorem lkX2_container_106 : Cond.fieldLink RX2 106 "SharedFibre$Container" "queued" "I" ∈ wsX2_container := by decide +kernel
theorem lkX2_container_209 : Cond.fieldLink RX2 209 "SharedFibre$Container" "reported" "I" ∈ wsX2_container := by decide +kernel
theorem lkX2_container_212 : Cond.fieldLink RX2 212 "SharedFibre$Container" "given" "I" ∈ wsX2_container := by decide +kernel
theorem ltX2_container_Ii : Cond.initialized "java/lang/IllegalArgumentException" ∈ wsX2_container := by decide +kernel
theorem ltX2_container_Ik : Cond.classLink RX2 37 "java/lang/IllegalArgumentException" ∈ wsX2_container := by decide +kernel
theorem ltX2_container_Ig : ∀ w ∈ (xW 41 "java/lang/IllegalArgumentException").filter goodWord, w ∈ wsX2_container := by
  intro w h
  first | exact List.mem_cons_of_mem _ (List.mem_append_right _ h) | exact List.mem_cons_of_mem _ (List.mem_append_left _ (List.mem_append_right _ h)) | exact List.mem_cons_of_mem _ (List.mem_append_left _ (List.mem_append_left _ (List.mem_append_right _ h)))
set_option maxHeartbeats 4000000 in
set_option maxRecDepth 100000 in
/-- X2_container -/
theorem c_X2_container (M : gm_M) (u c y : Int32) (q : Nat → Nat) (hq : ∀ n, n < 10 → M 0 2 n = nI (q n) ∧ q n ≤ 8) : KX lyC yX2_container wsX2_container ({ frames := 7, cells := 3, slots := 18, locals := 111 }) (fun ad => [.ref (ad 2 0), .int u, .int c, .int y]) M (thF (bU u ∨ bC c ∨ (y.toInt < 0 ∨ (3 : Int) < y.toInt)) "java/lang/IllegalArgumentException" none) (fun _ => some (.int (cnF M (2 * uN u + uN c) (q (2 * uN u + uN c)) y))) (M) 3 18 := by
  refine KX.of_i (by decide) rfl rfl (fun _ => by simp) (fun _ => by simp [Value.category])  ?_
  intro X hC hR hSX hE hT
  have hX := hSX.nx
  simp only [List.map_cons, List.map_nil, List.cons_append, List.nil_append, List.length_cons, List.length_nil, List.replicate, Nat.reduceAdd, Nat.reduceSub]
  refine go_aload_n hC dX2_container_0 rfl ?_
  refine go_iload_n hC dX2_container_1 rfl ?_
  refine go_callVX (n := 1) (k0 := 2) (n0 := 0) hC hSX (c_X2_numbered M u) gX2_container_X2_numbered rfl (by decide +kernel) ⟨rfl, rfl⟩ (by rw [hR]; exact ⟨by decide, by decide⟩) (by rw [hR]; exact ⟨by decide, by decide⟩) rfl (by decide) (by decide) rfl rfl (by first | decide | (show _ < 5; omega) | (show _ < 10; omega) | omega) rfl rfl rfl (Nat.le_of_ble_eq_true rfl) dX2_container_2 (fun E h => by obtain ⟨hp, rfl⟩ := thF_some h; exact thF_t (Or.inl hp)) (fun hn2 => ?_)
  simp only [gm_r0, gm_r1]
  obtain ⟨hue, hu5⟩ := bU_ix (thF_none hn2)
  refine go_iload_n hC dX2_container_5 rfl ?_
  refine go_callSX (n := 2) hC hSX (c_X2_containerOf M (uN u) hu5 c) gX2_container_X2_containerOf rfl (by decide +kernel) ⟨rfl, rfl⟩ (by rw [hR]; exact ⟨by decide, by decide⟩) (by rw [hR]; exact ⟨by decide, by decide⟩) rfl (by decide) (by decide) rfl rfl rfl (Nat.le_of_ble_eq_true rfl) dX2_container_6 (fun E h => by obtain ⟨hp, rfl⟩ := thF_some h; exact thF_t (Or.inr (Or.inl hp))) (fun hn6 => ?_)
  simp only [gm_r0, gm_r1]
  obtain ⟨hce, hc2⟩ := bC_ix (thF_none hn6)
  refine go_astore hC dX2_container_9 (Nat.le_of_ble_eq_true rfl) ?_
  simp only [gm_s0, gm_s1]
  refine go_iload_n hC dX2_container_11 rfl ?_
  by_cases w0 : y = 0
  ·
    subst w0
    refine go_tabIn (off := 32) hC 44 dX2_container_12 (by decide) (by decide) (by decide) (by decide) ?_
    refine go_aload hC dX2_container_44 rfl ?_
    refine go_callV (n := 0) (k0 := 0) (n0 := (2 * uN u + uN c)) hC hX (c_X0_load _ _ (q (2 * uN u + uN c)) (by omega) (hq (2 * uN u + uN c) (by omega)).1 (hq (2 * uN u + uN c) (by omega)).2) gX2_container_X0_load rfl (by decide +kernel) ⟨rfl, rfl⟩ (by rw [hR]; exact ⟨by decide, by decide⟩) (by rw [hR]; exact ⟨by decide, by decide⟩) rfl rfl rfl (by first | decide | (show _ < 5; omega) | (show _ < 10; omega) | omega) rfl rfl rfl (Nat.le_of_ble_eq_true rfl) dX2_container_46 ?_
    simp only [gm_r0, gm_r1]
    refine go_cast ?_ rfl (hE _ _ _ _ (by decide) (by decide) (thF_f (fun q => q.elim (thF_none hn2) (fun q => q.elim (thF_none hn6) (by decide)))) dX2_container_49)
    rfl
  by_cases w1 : y = 1
  ·
    subst w1
    refine go_tabIn (off := 38) hC 50 dX2_container_12 (by decide) (by decide) (by decide) (by decide) ?_
    refine go_aload hC dX2_container_50 rfl ?_
    refine go_geti (ci := 0) hC 8 kwX2_container_0 rfl rfl (by decide) rfl lkX2_container_209 (by first | decide | (show _ < 5; omega) | (show _ < 10; omega) | omega) dX2_container_52 ?_
    refine go_cast ?_ rfl (hE _ _ _ _ (by decide) (by decide) (thF_f (fun q => q.elim (thF_none hn2) (fun q => q.elim (thF_none hn6) (by decide)))) dX2_container_55)
    rfl
  by_cases w2 : y = 2
  ·
    subst w2
    refine go_tabIn (off := 44) hC 56 dX2_container_12 (by decide) (by decide) (by decide) (by decide) ?_
    refine go_aload hC dX2_container_56 rfl ?_
    refine go_geti (ci := 0) hC 9 kwX2_container_0 rfl rfl (by decide) rfl lkX2_container_212 (by first | decide | (show _ < 5; omega) | (show _ < 10; omega) | omega) dX2_container_58 ?_
    refine go_cast ?_ rfl (hE _ _ _ _ (by decide) (by decide) (thF_f (fun q => q.elim (thF_none hn2) (fun q => q.elim (thF_none hn6) (by decide)))) dX2_container_61)
    rfl
  by_cases w3 : y = 3
  ·
    subst w3
    refine go_tabIn (off := 50) hC 62 dX2_container_12 (by decide) (by decide) (by decide) (by decide) ?_
    refine go_aload hC dX2_container_62 rfl ?_
    refine go_geti (ci := 0) hC 2 kwX2_container_0 rfl rfl (by decide) rfl lkX2_container_106 (by first | decide | (show _ < 5; omega) | (show _ < 10; omega) | omega) dX2_container_64 ?_
    refine go_cast ?_ rfl (hE _ _ _ _ (by decide) (by decide) (thF_f (fun q => q.elim (thF_none hn2) (fun q => q.elim (thF_none hn6) (by decide)))) dX2_container_67)
    rfl
  have hsw := swOut y 3 (by decide) (fun k hk => by rcases (show k = 0 ∨ k = 1 ∨ k = 2 ∨ k = 3 by omega) with rfl | rfl | rfl | rfl; exact w0; exact w1; exact w2; exact w3)
  refine go_tabOut hC 68 dX2_container_12 hsw (by decide) ?_
  exact hT _ _ _ _ _ _ "java/lang/IllegalArgumentException" "what" _ (thF_t (Or.inr (Or.inr hsw))) (by decide) (by decide) (by decide) (by decide) ltX2_container_Ik ltX2_container_Ii ltX2_container_Ig rfl (by decide) (by decide) (by decide) (by decide) dX2_container_68 dX2_container_71 dX2_container_72 dX2_container_74 dX2_container_77
