/-! ===== the class: the fibre (6): sending ===== -/
theorem cSend_ne {M : gm_M} {n k f m : Nat} {z : Int32} (h1 : k ≠ 11) (h2 : ¬ (k = 0 ∧ f = 3 ∧ m = n)) : cSend M n z k f m = M k f m := by
  unfold cSend
  split
  · exact gm_un1 h1
  · rw [show gm_up (gm_up M 11 0 n (M 11 0 n - 1)) 0 3 n 1 k f m = gm_up M 11 0 n (M 11 0 n - 1) k f m from if_neg h2]
    exact gm_un1 h1
theorem cDrop_ne {M : gm_M} {n q k f m : Nat} (h1 : k ≠ 10) (h2 : k ≠ 11) (h3 : ¬ (k = 0 ∧ (f = 2 ∨ f = 3) ∧ m = n)) : cDrop M n q k f m = M k f m := by
  unfold cDrop
  rw [show ∀ Z : gm_M, gm_up Z 0 3 n 0 k f m = Z k f m from fun Z => if_neg (fun e => h3 ⟨e.1, Or.inr e.2.1, e.2.2⟩)]
  refine iter_inv (P := fun Z => Z k f m = M k f m) (fun j Z hZ => ?_) ?_ q
  · simp only [cDrop1]
    rw [gm_un1 h2, gm_un1 h1]
    exact hZ
  · exact if_neg (fun e => h3 ⟨e.1, Or.inl e.2.1, e.2.2⟩)
theorem cDrop_q {M : gm_M} {n q : Nat} : cDrop M n q 0 2 n = M 0 2 n - 1 := by
  unfold cDrop
  rw [gm_un2 (by decide)]
  exact cDrop1_q (by rw [gm_us]) q
theorem ntF_ne {M : gm_M} {a k f m : Nat} {d u c : Int32} (h1 : k ≠ 5) (h2 : ¬ (k = 2 ∧ f = 11)) : ntF M a d u c k f m = M k f m := by
  unfold ntF
  rw [show ∀ Z : gm_M, gm_up Z 2 11 0 (nI (a + 1)) k f m = Z k f m from fun Z => if_neg (fun e => h2 ⟨e.1, e.2.1⟩), gm_un1 h1, gm_un1 h1, gm_un1 h1, gm_un1 h1]
theorem ntF_a {M : gm_M} {a : Nat} {d u c : Int32} : ntF M a d u c 2 11 0 = nI (a + 1) := gm_us
def cDropF (M : gm_M) (c : Nat) : gm_M := cDrop M c ((M 0 2 c).toNatClampNeg - 1)
def ntFF (M : gm_M) (d u j : Int32) : gm_M := ntF M (M 2 11 0).toNatClampNeg d u j
def sfStep (c : Nat) (sp uv jv : Int32) (M : gm_M) : gm_M := if cSend M c sp 11 0 c = 0 then (if cSend M c sp 0 3 c = 0 then cDropF (ntFF (cSend M c sp) (cSend M c sp 10 0 c) uv jv) c else cDropF (gm_up (cSend M c sp) 2 12 0 (cSend M c sp 2 12 0 + 1)) c) else cSend M c sp
def sfLoop (c : Nat) (sp uv jv : Int32) : Nat → gm_M → gm_M
  | 0, M => M
  | d + 1, M => if M 0 2 c ≤ 0 then M else sfLoop c sp uv jv d (sfStep c sp uv jv M)
/-- what sending from a container needs: its share, its queue, room for what comes -/
def IV (c g : Nat) (M : gm_M) : Prop := M 0 9 c = nI g ∧ ∃ q a : Nat, M 0 2 c = nI q ∧ q ≤ 8 ∧ M 2 11 0 = nI a ∧ a + q ≤ 100
theorem cDropF_eq {M : gm_M} {c q : Nat} (h : M 0 2 c = nI (q + 1)) (hq : q < 8) : cDropF M c = cDrop M c q := by
  unfold cDropF
  rw [h, nI_clamp (by omega)]
  rfl
theorem ntFF_eq {M : gm_M} {a : Nat} {d u j : Int32} (h : M 2 11 0 = nI a) (ha : a ≤ 100) : ntFF M d u j = ntF M a d u j := by
  unfold ntFF
  rw [h, nI_clamp (by omega)]
theorem kwX2_sendFrom_0 : ∀ w ∈ wsX00, w ∈ wsX2_sendFrom := by decide +kernel
theorem kwX2_sendFrom_1 : ∀ w ∈ wsX10, w ∈ wsX2_sendFrom := by decide +kernel
theorem kwX2_sendFrom_2 : ∀ w ∈ wsX20, w ∈ wsX2_sendFrom := by decide +kernel
theorem lkX2_sendFrom_11 : Cond.fieldLink RX2 11 "SharedFibre" "units" "[LSharedFibre$Unit;" ∈ wsX2_sendFrom := by decide +kernel
theorem lkX2_sendFrom_106 : Cond.fieldLink RX2 106 "SharedFibre$Container" "queued" "I" ∈ wsX2_sendFrom := by decide +kernel
theorem lkX2_sendFrom_135 : Cond.fieldLink RX2 135 "SharedFibre$Unit" "spoilt" "Z" ∈ wsX2_sendFrom := by decide +kernel
theorem lkX2_sendFrom_212 : Cond.fieldLink RX2 212 "SharedFibre$Container" "given" "I" ∈ wsX2_sendFrom := by decide +kernel
theorem lkX2_sendFrom_220 : Cond.fieldLink RX2 220 "SharedFibre" "lost" "I" ∈ wsX2_sendFrom := by decide +kernel
theorem lkX2_sendFrom_292 : Cond.fieldLink RX2 292 "SharedFibre$Container" "unsent" "[I" ∈ wsX2_sendFrom := by decide +kernel
theorem lkX2_sendFrom_295 : Cond.fieldLink RX2 295 "SharedFibre$Container" "firstHurt" "Z" ∈ wsX2_sendFrom := by decide +kernel
theorem lkX2_sendFrom_298 : Cond.fieldLink RX2 298 "SharedFibre$Container" "numbers" "[I" ∈ wsX2_sendFrom := by decide +kernel
set_option maxHeartbeats 4000000 in
set_option maxRecDepth 100000 in
/-- sendFrom -/
theorem c_X2_sendFrom (M : gm_M) (c u g : Nat) (hc : c < 10) (hu : u < 5) (jv : Int32) (hg31 : g < 2 ^ 31) (hIV : IV c g M) : KC lyC yX2_sendFrom wsX2_sendFrom ({ frames := 1, cells := 0, slots := 0, locals := 24 }) (fun ad => [.ref (ad 2 0), .ref (ad 0 c), .int (nI u), .int jv]) M (fun _ => none) (sfLoop c (M 1 14 u) (nI u) jv g M) := by
  refine KC.of_v (by decide) rfl rfl (fun _ => by simp) (fun _ => by simp [Value.category])  ?_
  intro X hC hR hX hE
  simp only [List.map_cons, List.map_nil, List.cons_append, List.nil_append, List.length_cons, List.length_nil, List.replicate, Nat.reduceAdd, Nat.reduceSub]
  have lp14 : (fun j : Nat => ∀ M2 : gm_M, IV c g M2 → sfLoop c (M 1 14 u) (nI u) jv (g - j) M2 = sfLoop c (M 1 14 u) (nI u) jv g M → GO lyC X 0 0 14 [some (.ref (gm_ad X 2 0)), some (.ref (gm_ad X 0 c)), some (.int (nI u)), some (.int jv), some (.int (M 1 14 u)), some (.int (nI j))] [] M2) 0 := by
    refine loopN (g) (fun j : Nat => ∀ M2 : gm_M, IV c g M2 → sfLoop c (M 1 14 u) (nI u) jv (g - j) M2 = sfLoop c (M 1 14 u) (nI u) jv g M → GO lyC X 0 0 14 [some (.ref (gm_ad X 2 0)), some (.ref (gm_ad X 0 c)), some (.int (nI u)), some (.int jv), some (.int (M 1 14 u)), some (.int (nI j))] [] M2) ?_ (fun j hj ih => ?_)
    · try dsimp only
      intro M2 hI hl
      have hfin : sfLoop c (M 1 14 u) (nI u) jv (g - g) M2 = M2 := by rw [Nat.sub_self]; rfl
      refine go_iload hC dX2_sendFrom_14 rfl ?_
      refine go_aload_n hC dX2_sendFrom_16 rfl ?_
      refine go_geti (ci := 0) hC 9 kwX2_sendFrom_0 rfl rfl (by decide) rfl lkX2_sendFrom_212 (by first | decide | (show _ < 5; omega) | (show _ < 10; omega) | omega) dX2_sendFrom_17 ?_
      refine go_icmp_ge hC 87 dX2_sendFrom_20 (by decide) (fun h20 => ?_) (fun h20 => ?_)
      ·
        rw [hfin] at hl
        rw [← hl] at hE
        exact hE _ _ dX2_sendFrom_87
      ·
        exact absurd (by rw [hI.1]; exact nI_le (Nat.le_refl _) hg31) h20
    · try dsimp only at ih ⊢
      intro M2 hI hl
      obtain ⟨d9, hd9⟩ : ∃ d9, g - j = d9 + 1 := ⟨g - j - 1, by omega⟩
      refine go_iload hC dX2_sendFrom_14 rfl ?_
      refine go_aload_n hC dX2_sendFrom_16 rfl ?_
      refine go_geti (ci := 0) hC 9 kwX2_sendFrom_0 rfl rfl (by decide) rfl lkX2_sendFrom_212 (by first | decide | (show _ < 5; omega) | (show _ < 10; omega) | omega) dX2_sendFrom_17 ?_
      refine go_icmp_ge hC 87 dX2_sendFrom_20 (by decide) (fun h20 => ?_) (fun h20 => ?_)
      ·
        exact absurd h20 (by rw [hI.1]; exact nI_ge hj hg31)
      ·
        refine go_aload_n hC dX2_sendFrom_23 rfl ?_
        refine go_geti (ci := 0) hC 2 kwX2_sendFrom_0 rfl rfl (by decide) rfl lkX2_sendFrom_106 (by first | decide | (show _ < 5; omega) | (show _ < 10; omega) | omega) dX2_sendFrom_24 ?_
        refine go_if_le hC 87 dX2_sendFrom_27 (by decide) (fun h27 => ?_) (fun h27 => ?_)
        ·
          have hfin : sfLoop c (M 1 14 u) (nI u) jv (g - j) M2 = M2 := by rw [hd9]; exact if_pos h27
          rw [hfin] at hl
          rw [← hl] at hE
          exact hE _ _ dX2_sendFrom_87
        ·
          refine go_aload_n hC dX2_sendFrom_30 rfl ?_
          refine go_iload hC dX2_sendFrom_31 rfl ?_
          refine go_callV (n := 1) (k0 := 0) (n0 := c) hC hX (c_X0_sendBlock _ _ (by omega) _) gX2_sendFrom_X0_sendBlock rfl (by decide +kernel) ⟨rfl, rfl⟩ (by rw [hR]; exact ⟨by decide, by decide⟩) (by rw [hR]; exact ⟨by decide, by decide⟩) rfl rfl rfl (by first | decide | (show _ < 5; omega) | (show _ < 10; omega) | omega) rfl rfl rfl (Nat.le_of_ble_eq_true rfl) dX2_sendFrom_33 ?_
          simp only [gm_r0, gm_r1]
          obtain ⟨hg9, q, a, hq, hq8, ha, haq⟩ := hI
          obtain ⟨q', rfl⟩ : ∃ q', q = q' + 1 := ⟨q - 1, by have : q ≠ 0 := fun e => h27 (by rw [hq, e]; decide); omega⟩
          have hs9 : (cSend M2 c (M 1 14 u)) 0 9 c = nI g := by rw [cSend_ne (by decide) (by simp)]; exact hg9
          have hs2 : (cSend M2 c (M 1 14 u)) 0 2 c = nI (q' + 1) := by rw [cSend_ne (by decide) (by simp)]; exact hq
          have hsa : (cSend M2 c (M 1 14 u)) 2 11 0 = nI a := by rw [cSend_ne (by decide) (by simp)]; exact ha
          refine go_aload_n hC dX2_sendFrom_36 rfl ?_
          refine go_getr (ci := 0) hC 1 kwX2_sendFrom_0 rfl rfl (by decide) rfl lkX2_sendFrom_292 (by first | decide | (show _ < 5; omega) | (show _ < 10; omega) | omega) dX2_sendFrom_37 ?_
          refine go_iconst (v := 0) hC dX2_sendFrom_40 (by decide) ?_
          refine go_iald hC rfl (by first | decide | (show _ < 5; omega) | (show _ < 10; omega) | omega) (gm_in (n := 0) nI_0.symm (by omega) (by decide)) (gm_cl (n := 0) nI_0.symm (by omega)) dX2_sendFrom_41 ?_
          refine go_if_ne hC 81 dX2_sendFrom_42 (by decide) (fun h42 => ?_) (fun h42 => ?_)
          ·
            have hI2 : IV c g (cSend M2 c (M 1 14 u)) := ⟨hs9, q' + 1, a, hs2, by omega, hsa, by omega⟩
            have hl2 : sfLoop c (M 1 14 u) (nI u) jv (g - (j + 1)) (cSend M2 c (M 1 14 u)) = sfLoop c (M 1 14 u) (nI u) jv g M := by
              rw [← hl, hd9, show g - (j + 1) = d9 by omega, show sfLoop c (M 1 14 u) (nI u) jv (d9 + 1) M2 = sfLoop c (M 1 14 u) (nI u) jv d9 (sfStep c (M 1 14 u) (nI u) jv M2) from if_neg h27, show sfStep c (M 1 14 u) (nI u) jv M2 = _ from if_neg h42]
            refine go_iinc (v := 1) hC dX2_sendFrom_81 rfl (by decide) ?_
            simp only [gm_s0, gm_s1]
            refine go_goto hC 14 dX2_sendFrom_84 (by decide) ?_
            rw [nI_1]
            exact ih _ hI2 hl2
          ·
            refine go_aload_n hC dX2_sendFrom_45 rfl ?_
            refine go_geti (ci := 0) hC 3 kwX2_sendFrom_0 rfl rfl (by decide) rfl lkX2_sendFrom_295 (by first | decide | (show _ < 5; omega) | (show _ < 10; omega) | omega) dX2_sendFrom_46 ?_
            refine go_if_eq hC 65 dX2_sendFrom_49 (by decide) (fun h49 => ?_) (fun h49 => ?_)
            ·
              refine go_aload_n hC dX2_sendFrom_65 rfl ?_
              refine go_aload_n hC dX2_sendFrom_66 rfl ?_
              refine go_getr (ci := 0) hC 0 kwX2_sendFrom_0 rfl rfl (by decide) rfl lkX2_sendFrom_298 (by first | decide | (show _ < 5; omega) | (show _ < 10; omega) | omega) dX2_sendFrom_67 ?_
              refine go_iconst (v := 0) hC dX2_sendFrom_70 (by decide) ?_
              refine go_iald hC rfl (by first | decide | (show _ < 5; omega) | (show _ < 10; omega) | omega) (gm_in (n := 0) nI_0.symm (by omega) (by decide)) (gm_cl (n := 0) nI_0.symm (by omega)) dX2_sendFrom_71 ?_
              refine go_iload_n hC dX2_sendFrom_72 rfl ?_
              refine go_iload_n hC dX2_sendFrom_73 rfl ?_
              refine go_callV (n := 3) (k0 := 2) (n0 := 0) hC hX (c_X2_note _ a hsa (by omega) _ _ _) gX2_sendFrom_X2_note rfl (by decide +kernel) ⟨rfl, rfl⟩ (by rw [hR]; exact ⟨by decide, by decide⟩) (by rw [hR]; exact ⟨by decide, by decide⟩) rfl rfl rfl (by first | decide | (show _ < 5; omega) | (show _ < 10; omega) | omega) rfl rfl rfl (Nat.le_of_ble_eq_true rfl) dX2_sendFrom_74 ?_
              simp only [gm_r0, gm_r1]
              refine go_aload_n hC dX2_sendFrom_77 rfl ?_
              refine go_callV (n := 0) (k0 := 0) (n0 := c) hC hX (c_X0_dropFirst _ _ q' (by omega) (by rw [ntF_ne (by decide) (by simp)]; exact hs2) (by omega)) gX2_sendFrom_X0_dropFirst rfl (by decide +kernel) ⟨rfl, rfl⟩ (by rw [hR]; exact ⟨by decide, by decide⟩) (by rw [hR]; exact ⟨by decide, by decide⟩) rfl rfl rfl (by first | decide | (show _ < 5; omega) | (show _ < 10; omega) | omega) rfl rfl rfl (Nat.le_of_ble_eq_true rfl) dX2_sendFrom_78 ?_
              simp only [gm_r0, gm_r1]
              have hI2 : IV c g (cDrop (ntF (cSend M2 c (M 1 14 u)) a ((cSend M2 c (M 1 14 u)) 10 0 c) (nI u) jv) c q') := ⟨by rw [cDrop_ne (by decide) (by decide) (by simp), ntF_ne (by decide) (by simp)]; exact hs9, q', a + 1, by rw [cDrop_q, ntF_ne (by decide) (by simp), hs2]; exact nI_pred q', by omega, by rw [cDrop_ne (by decide) (by decide) (by simp), ntF_a], by omega⟩
              have hl2 : sfLoop c (M 1 14 u) (nI u) jv (g - (j + 1)) (cDrop (ntF (cSend M2 c (M 1 14 u)) a ((cSend M2 c (M 1 14 u)) 10 0 c) (nI u) jv) c q') = sfLoop c (M 1 14 u) (nI u) jv g M := by
                rw [← hl, hd9, show g - (j + 1) = d9 by omega, show sfLoop c (M 1 14 u) (nI u) jv (d9 + 1) M2 = sfLoop c (M 1 14 u) (nI u) jv d9 (sfStep c (M 1 14 u) (nI u) jv M2) from if_neg h27, show sfStep c (M 1 14 u) (nI u) jv M2 = _ from if_pos h42, if_pos h49, ntFF_eq hsa (by omega), cDropF_eq (by rw [ntF_ne (by decide) (by simp)]; exact hs2) (by omega)]
              refine go_iinc (v := 1) hC dX2_sendFrom_81 rfl (by decide) ?_
              simp only [gm_s0, gm_s1]
              refine go_goto hC 14 dX2_sendFrom_84 (by decide) ?_
              rw [nI_1]
              exact ih _ hI2 hl2
            ·
              refine go_aload_n hC dX2_sendFrom_52 rfl ?_
              refine go_dup hC dX2_sendFrom_53 rfl ?_
              refine go_geti (ci := 2) hC 12 kwX2_sendFrom_2 rfl rfl (by decide) rfl lkX2_sendFrom_220 (by first | decide | (show _ < 5; omega) | (show _ < 10; omega) | omega) dX2_sendFrom_54 ?_
              refine go_iconst (v := 1) hC dX2_sendFrom_57 (by decide) ?_
              refine go_iadd hC dX2_sendFrom_58 ?_
              refine go_puti (ci := 2) hC 12 kwX2_sendFrom_2 rfl tyX2 tyX2_ok nmX2 rfl (by decide) rfl lkX2_sendFrom_220 (by first | decide | (show _ < 5; omega) | (show _ < 10; omega) | omega) rfl rfl rfl dX2_sendFrom_59 ?_
              refine go_goto hC 77 dX2_sendFrom_62 (by decide) ?_
              refine go_aload_n hC dX2_sendFrom_77 rfl ?_
              refine go_callV (n := 0) (k0 := 0) (n0 := c) hC hX (c_X0_dropFirst _ _ q' (by omega) (by rw [gm_un1 (by decide)]; exact hs2) (by omega)) gX2_sendFrom_X0_dropFirst rfl (by decide +kernel) ⟨rfl, rfl⟩ (by rw [hR]; exact ⟨by decide, by decide⟩) (by rw [hR]; exact ⟨by decide, by decide⟩) rfl rfl rfl (by first | decide | (show _ < 5; omega) | (show _ < 10; omega) | omega) rfl rfl rfl (Nat.le_of_ble_eq_true rfl) dX2_sendFrom_78 ?_
              simp only [gm_r0, gm_r1]
              have hI2 : IV c g (cDrop (gm_up (cSend M2 c (M 1 14 u)) 2 12 0 ((cSend M2 c (M 1 14 u)) 2 12 0 + 1)) c q') := ⟨by rw [cDrop_ne (by decide) (by decide) (by simp), gm_un1 (by decide)]; exact hs9, q', a, by rw [cDrop_q, gm_un1 (by decide), hs2]; exact nI_pred q', by omega, by rw [cDrop_ne (by decide) (by decide) (by simp), gm_un2 (by decide)]; exact hsa, by omega⟩
              have hl2 : sfLoop c (M 1 14 u) (nI u) jv (g - (j + 1)) (cDrop (gm_up (cSend M2 c (M 1 14 u)) 2 12 0 ((cSend M2 c (M 1 14 u)) 2 12 0 + 1)) c q') = sfLoop c (M 1 14 u) (nI u) jv g M := by
                rw [← hl, hd9, show g - (j + 1) = d9 by omega, show sfLoop c (M 1 14 u) (nI u) jv (d9 + 1) M2 = sfLoop c (M 1 14 u) (nI u) jv d9 (sfStep c (M 1 14 u) (nI u) jv M2) from if_neg h27, show sfStep c (M 1 14 u) (nI u) jv M2 = _ from if_pos h42, if_neg h49, cDropF_eq (by rw [gm_un1 (by decide)]; exact hs2) (by omega)]
              refine go_iinc (v := 1) hC dX2_sendFrom_81 rfl (by decide) ?_
              simp only [gm_s0, gm_s1]
              refine go_goto hC 14 dX2_sendFrom_84 (by decide) ?_
              rw [nI_1]
              exact ih _ hI2 hl2
  try dsimp only at lp14
  refine go_aload_n hC dX2_sendFrom_0 rfl ?_
  refine go_getr (ci := 2) hC 0 kwX2_sendFrom_2 rfl rfl (by decide) rfl lkX2_sendFrom_11 (by first | decide | (show _ < 5; omega) | (show _ < 10; omega) | omega) dX2_sendFrom_1 ?_
  refine go_iload_n hC dX2_sendFrom_4 rfl ?_
  refine go_aald hC rfl (fun _ => rfl) (by first | decide | (show _ < 5; omega) | (show _ < 10; omega) | omega) (gm_in rfl (by omega) (by decide)) (gm_cu rfl (by omega)) dX2_sendFrom_5 ?_
  refine go_geti (ci := 1) hC 14 kwX2_sendFrom_1 rfl rfl (by decide) rfl lkX2_sendFrom_135 (by first | decide | (show _ < 5; omega) | (show _ < 10; omega) | omega) dX2_sendFrom_6 ?_
  refine go_istore hC dX2_sendFrom_9 (Nat.le_of_ble_eq_true rfl) ?_
  simp only [gm_s0, gm_s1]
  refine go_iconst (v := 0) hC dX2_sendFrom_11 (by decide) ?_
  refine go_istore hC dX2_sendFrom_12 (Nat.le_of_ble_eq_true rfl) ?_
  simp only [gm_s0, gm_s1]
  exact lp14 M hIV rfl
