/-! ===== the class: the fibre (7): sending, the frame ===== -/
theorem sfStep_ne {c : Nat} {sp uv jv : Int32} {M : gm_M} {k f m : Nat} (h1 : k ≠ 10) (h2 : k ≠ 11) (h3 : k ≠ 5) (h4 : ¬ (k = 0 ∧ (f = 2 ∨ f = 3) ∧ m = c)) (h5 : ¬ (k = 2 ∧ (f = 11 ∨ f = 12))) : sfStep c sp uv jv M k f m = M k f m := by
  have e : cSend M c sp k f m = M k f m := cSend_ne h2 (fun q => h4 ⟨q.1, Or.inr q.2.1, q.2.2⟩)
  unfold sfStep
  split
  · split
    · unfold cDropF
      rw [cDrop_ne h1 h2 h4]
      unfold ntFF
      rw [ntF_ne h3 (fun q => h5 ⟨q.1, Or.inl q.2⟩)]
      exact e
    · unfold cDropF
      rw [cDrop_ne h1 h2 h4, show ∀ x : Int32, gm_up (cSend M c sp) 2 12 0 x k f m = cSend M c sp k f m from fun x => if_neg (fun q => h5 ⟨q.1, Or.inr q.2.1⟩)]
      exact e
  · exact e
theorem sfLoop_ne {c : Nat} {sp uv jv : Int32} {k f m : Nat} (h1 : k ≠ 10) (h2 : k ≠ 11) (h3 : k ≠ 5) (h4 : ¬ (k = 0 ∧ (f = 2 ∨ f = 3) ∧ m = c)) (h5 : ¬ (k = 2 ∧ (f = 11 ∨ f = 12))) : ∀ (d : Nat) (M : gm_M), sfLoop c sp uv jv d M k f m = M k f m
  | 0, M => rfl
  | d + 1, M => by
    by_cases h : M 0 2 c ≤ 0
    · rw [show sfLoop c sp uv jv (d + 1) M = M from if_pos h]
    · rw [show sfLoop c sp uv jv (d + 1) M = sfLoop c sp uv jv d (sfStep c sp uv jv M) from if_neg h, sfLoop_ne h1 h2 h3 h4 h5 d, sfStep_ne h1 h2 h3 h4 h5]
/-- the queue's length and what has come, together: never more -/
def QA (c : Nat) (M : gm_M) (t : Nat) : Prop := ∃ q a : Nat, M 0 2 c = nI q ∧ q ≤ 8 ∧ M 2 11 0 = nI a ∧ a + q ≤ t
theorem sfStep_qa {c : Nat} {sp uv jv : Int32} {M : gm_M} {t : Nat} (ht : t ≤ 100) (h : QA c M t) (h0 : ¬ M 0 2 c ≤ 0) : QA c (sfStep c sp uv jv M) t := by
  obtain ⟨q, a, hq, hq8, ha, haq⟩ := h
  obtain ⟨q', rfl⟩ : ∃ q', q = q' + 1 := ⟨q - 1, by have : q ≠ 0 := fun e => h0 (by rw [hq, e]; decide); omega⟩
  have hs2 : cSend M c sp 0 2 c = nI (q' + 1) := by rw [cSend_ne (by decide) (by simp)]; exact hq
  have hsa : cSend M c sp 2 11 0 = nI a := by rw [cSend_ne (by decide) (by simp)]; exact ha
  unfold sfStep
  split
  · split
    · rw [ntFF_eq hsa (by omega), cDropF_eq (q := q') (by rw [ntF_ne (by decide) (by simp)]; exact hs2) (by omega)]
      exact ⟨q', a + 1, by rw [cDrop_q, ntF_ne (by decide) (by simp), hs2]; exact nI_pred q', by omega, by rw [cDrop_ne (by decide) (by decide) (by simp), ntF_a], by omega⟩
    · rw [cDropF_eq (q := q') (by rw [gm_un1 (by decide)]; exact hs2) (by omega)]
      exact ⟨q', a, by rw [cDrop_q, gm_un1 (by decide), hs2]; exact nI_pred q', by omega, by rw [cDrop_ne (by decide) (by decide) (by simp), gm_un2 (by decide)]; exact hsa, by omega⟩
  · exact ⟨q' + 1, a, hs2, hq8, hsa, haq⟩
theorem sfLoop_qa {c : Nat} {sp uv jv : Int32} {t : Nat} (ht : t ≤ 100) : ∀ (d : Nat) (M : gm_M), QA c M t → QA c (sfLoop c sp uv jv d M) t
  | 0, M, h => h
  | d + 1, M, h => by
    by_cases h0 : M 0 2 c ≤ 0
    · rw [show sfLoop c sp uv jv (d + 1) M = M from if_pos h0]
      exact h
    · rw [show sfLoop c sp uv jv (d + 1) M = sfLoop c sp uv jv d (sfStep c sp uv jv M) from if_neg h0]
      exact sfLoop_qa ht d _ (sfStep_qa ht h h0)
def qs (q : Nat → Nat) : Nat := q 0 + q 1 + q 2 + q 3 + q 4 + q 5 + q 6 + q 7 + q 8 + q 9
theorem qs_upd (q : Nat → Nat) (v : Nat) : ∀ c, c < 10 → qs (fun x => if x = c then v else q x) + q c = qs q + v := by
  intro c hc
  rcases (show c = 0 ∨ c = 1 ∨ c = 2 ∨ c = 3 ∨ c = 4 ∨ c = 5 ∨ c = 6 ∨ c = 7 ∨ c = 8 ∨ c = 9 by omega) with rfl | rfl | rfl | rfl | rfl | rfl | rfl | rfl | rfl | rfl <;> simp [qs] <;> omega
theorem qs_ge (q : Nat → Nat) : ∀ c, c < 10 → q c ≤ qs q := by
  intro c hc
  rcases (show c = 0 ∨ c = 1 ∨ c = 2 ∨ c = 3 ∨ c = 4 ∨ c = 5 ∨ c = 6 ∨ c = 7 ∨ c = 8 ∨ c = 9 by omega) with rfl | rfl | rfl | rfl | rfl | rfl | rfl | rfl | rfl | rfl <;> simp [qs] <;> omega
/-- what sending needs of all containers -/
def IVS (M : gm_M) : Prop := (∀ c, c < 10 → ∃ g, g < 2 ^ 31 ∧ M 0 9 c = nI g) ∧ ∃ (q : Nat → Nat) (a : Nat), (∀ c, c < 10 → M 0 2 c = nI (q c) ∧ q c ≤ 8) ∧ M 2 11 0 = nI a ∧ a + qs q ≤ 100
theorem IVS.iv {M : gm_M} (h : IVS M) {c : Nat} (hc : c < 10) : IV c (M 0 9 c).toNatClampNeg M ∧ (M 0 9 c).toNatClampNeg < 2 ^ 31 := by
  obtain ⟨hg, q, a, hq, ha, hs⟩ := h
  obtain ⟨g, hg31, eg⟩ := hg c hc
  rw [IV, eg, nI_clamp hg31]
  have := qs_ge q c hc
  exact ⟨⟨rfl, q c, a, (hq c hc).1, (hq c hc).2, ha, by omega⟩, hg31⟩
theorem IVS.q {M : gm_M} (h : IVS M) {c : Nat} (hc : c < 10) : M 0 2 c = nI (M 0 2 c).toNatClampNeg ∧ (M 0 2 c).toNatClampNeg ≤ 8 := by
  obtain ⟨hg, q, a, hq, ha, hs⟩ := h
  obtain ⟨e, h8⟩ := hq c hc
  rw [e, nI_clamp (by omega)]
  exact ⟨rfl, h8⟩
def loadF (M : gm_M) (c : Nat) : Int32 := bx_sum (fun k => M 11 k c) (M 0 2 c).toNatClampNeg
def sbA (i : Nat) (jj : Nat) (M : gm_M) : gm_M := sfLoop (2 * i + jj) (M 1 14 i) (nI i) (nI jj) (M 0 9 (2 * i + jj)).toNatClampNeg M
def sb1 (i : Nat) : Nat → gm_M → gm_M := fun jj M => if sbA i jj M 1 14 i = 0 then gm_up (sbA i jj M) 0 8 (2 * i + jj) (loadF (sbA i jj M) (2 * i + jj)) else sbA i jj M
def sb2 : Nat → gm_M → gm_M := fun i M => if M 1 1 i = 2 then iter (sb1 i) 2 M else M
theorem sbA_IVS {i jj : Nat} {M : gm_M} (hi : i < 5) (hj : jj < 2) (h : IVS M) : IVS (sbA i jj M) := by
  have hc : 2 * i + jj < 10 := by omega
  obtain ⟨hg, q, a, hq, ha, hs⟩ := h
  have hge := qs_ge q (2 * i + jj) hc
  obtain ⟨q', a', hq', hq8', ha', hs'⟩ := sfLoop_qa (c := 2 * i + jj) (sp := M 1 14 i) (uv := nI i) (jv := nI jj) (t := a + q (2 * i + jj)) (by omega) (M 0 9 (2 * i + jj)).toNatClampNeg M ⟨q (2 * i + jj), a, (hq _ hc).1, (hq _ hc).2, ha, Nat.le_refl _⟩
  refine ⟨fun c h10 => ?_, fun x => if x = 2 * i + jj then q' else q x, a', fun c h10 => ?_, ha', ?_⟩
  · obtain ⟨g, h1, h2⟩ := hg c h10
    refine ⟨g, h1, ?_⟩
    unfold sbA
    rw [sfLoop_ne (by decide) (by decide) (by decide) (by simp) (by simp)]
    exact h2
  · by_cases e : c = 2 * i + jj
    · subst e
      simp only [if_pos]
      exact ⟨hq', hq8'⟩
    · simp only [if_neg e]
      unfold sbA
      rw [sfLoop_ne (by decide) (by decide) (by decide) (by simp [e]) (by simp)]
      exact hq c h10
  · have := qs_upd q q' (2 * i + jj) hc
    omega
theorem sb1_IVS {i jj : Nat} {M : gm_M} (hi : i < 5) (hj : jj < 2) (h : IVS M) : IVS (sb1 i jj M) := by
  have h1 := sbA_IVS hi hj h
  unfold sb1
  split
  · obtain ⟨hg, q, a, hq, ha, hs⟩ := h1
    refine ⟨fun c hc => ?_, q, a, fun c hc => ?_, ?_, hs⟩
    · rw [gm_un2 (by decide)]; exact hg c hc
    · rw [gm_un2 (by decide)]; exact hq c hc
    · rw [gm_un1 (by decide)]; exact ha
  · exact h1
theorem iter_invL {f : Nat → gm_M → gm_M} {P : gm_M → Prop} (n : Nat) (h : ∀ k M, k < n → P M → P (f k M)) {M : gm_M} (h0 : P M) : ∀ k, k ≤ n → P (iter f k M)
  | 0, _ => h0
  | k + 1, hk => h k _ (by omega) (iter_invL n h h0 k (by omega))
theorem sb2_IVS {i : Nat} {M : gm_M} (hi : i < 5) (h : IVS M) : IVS (sb2 i M) := by
  unfold sb2
  split
  · exact iter_invL 2 (fun k M hk hM => sb1_IVS hi hk hM) h 2 (Nat.le_refl 2)
  · exact h
theorem kwX2_sendBlocks_0 : ∀ w ∈ wsX00, w ∈ wsX2_sendBlocks := by decide +kernel
theorem kwX2_sendBlocks_1 : ∀ w ∈ wsX10, w ∈ wsX2_sendBlocks := by decide +kernel
theorem kwX2_sendBlocks_2 : ∀ w ∈ wsX20, w ∈ wsX2_sendBlocks := by decide +kernel
theorem lkX2_sendBlocks_11 : Cond.fieldLink RX2 11 "SharedFibre" "units" "[LSharedFibre$Unit;" ∈ wsX2_sendBlocks := by decide +kernel
theorem lkX2_sendBlocks_58 : Cond.fieldLink RX2 58 "SharedFibre$Unit" "state" "I" ∈ wsX2_sendBlocks := by decide +kernel
theorem lkX2_sendBlocks_135 : Cond.fieldLink RX2 135 "SharedFibre$Unit" "spoilt" "Z" ∈ wsX2_sendBlocks := by decide +kernel
theorem lkX2_sendBlocks_209 : Cond.fieldLink RX2 209 "SharedFibre$Container" "reported" "I" ∈ wsX2_sendBlocks := by decide +kernel
theorem lkX2_sendBlocks_240 : Cond.fieldLink RX2 240 "SharedFibre$Unit" "containers" "[LSharedFibre$Container;" ∈ wsX2_sendBlocks := by decide +kernel
set_option maxHeartbeats 4000000 in
set_option maxRecDepth 100000 in
/-- sendBlocks -/
theorem c_X2_sendBlocks (M : gm_M) (hI : IVS M) : KC lyC yX2_sendBlocks wsX2_sendBlocks ({ frames := 2, cells := 0, slots := 0, locals := 49 }) (fun ad => [.ref (ad 2 0)]) M (fun _ => none) (iter sb2 5 M) := by
  refine KC.of_v (by decide) rfl rfl (fun _ => by simp) (fun _ => by simp [Value.category])  ?_
  intro X hC hR hX hE
  simp only [List.map_cons, List.map_nil, List.cons_append, List.nil_append, List.length_cons, List.length_nil, List.replicate, Nat.reduceAdd, Nat.reduceSub]
  have lp2 : (fun j : Nat => GO lyC X 0 0 2 [some (.ref (gm_ad X 2 0)), some (.int (nI j)), none, none, none] [] (iter sb2 j M)) 0 := by
    refine loopN (5) (fun j : Nat => GO lyC X 0 0 2 [some (.ref (gm_ad X 2 0)), some (.int (nI j)), none, none, none] [] (iter sb2 j M)) ?_ (fun j hj ih => ?_)
    · try dsimp only
      refine go_iload_n hC dX2_sendBlocks_2 rfl ?_
      refine go_iconst (v := 5) hC dX2_sendBlocks_3 (by decide) ?_
      refine go_icmp_ge hC 74 dX2_sendBlocks_4 (by decide) (fun h4 => ?_) (fun h4 => ?_)
      ·
        refine go_cast ?_ ?_ (hE _ _ dX2_sendBlocks_74)
        · first | rfl | (simp [*]; done) | (simp [*, gm_us, gm_un1, gm_un2]; done)
        · first | rfl | (simp [*]; done) | (simp [*, gm_us, gm_un1, gm_un2]; done)
      ·
        exact absurd (show nI 5 ≤ nI 5 from nI_le (Nat.le_refl _) (by decide)) h4
    · try dsimp only at ih ⊢
      have hIj : IVS (iter sb2 j M) := iter_invL 5 (fun k M hk hM => sb2_IVS hk hM) hI j (by omega)
      refine go_iload_n hC dX2_sendBlocks_2 rfl ?_
      refine go_iconst (v := 5) hC dX2_sendBlocks_3 (by decide) ?_
      refine go_icmp_ge hC 74 dX2_sendBlocks_4 (by decide) (fun h4 => ?_) (fun h4 => ?_)
      ·
        exact absurd h4 (show ¬ nI 5 ≤ nI j from nI_ge hj (by decide))
      ·
        refine go_aload_n hC dX2_sendBlocks_7 rfl ?_
        refine go_getr (ci := 2) hC 0 kwX2_sendBlocks_2 rfl rfl (by decide) rfl lkX2_sendBlocks_11 (by first | decide | (show _ < 5; omega) | (show _ < 10; omega) | omega) dX2_sendBlocks_8 ?_
        refine go_iload_n hC dX2_sendBlocks_11 rfl ?_
        refine go_aald hC rfl (fun _ => rfl) (by first | decide | (show _ < 5; omega) | (show _ < 10; omega) | omega) (gm_in rfl (by omega) (by decide)) (gm_cu rfl (by omega)) dX2_sendBlocks_12 ?_
        refine go_astore_n hC 2 dX2_sendBlocks_13 rfl (Nat.le_of_ble_eq_true rfl) ?_
        simp only [gm_s0, gm_s1]
        refine go_aload_n hC dX2_sendBlocks_14 rfl ?_
        refine go_geti (ci := 1) hC 1 kwX2_sendBlocks_1 rfl rfl (by decide) rfl lkX2_sendBlocks_58 (by first | decide | (show _ < 5; omega) | (show _ < 10; omega) | omega) dX2_sendBlocks_15 ?_
        refine go_iconst (v := 2) hC dX2_sendBlocks_18 (by decide) ?_
        refine go_icmp_ne hC 68 dX2_sendBlocks_19 (by decide) (fun h19 => ?_) (fun h19 => ?_)
        ·
          refine go_iinc (v := 1) hC dX2_sendBlocks_68 rfl (by decide) ?_
          simp only [gm_s0, gm_s1]
          refine go_goto hC 2 dX2_sendBlocks_71 (by decide) ?_
          rw [nI_1]
          refine go_sub (go_mem ?_ ih) ?_
          · rw [iter_s sb2 j]
            first | exact (if_pos h19).symm | exact (if_neg h19).symm
          repeat (first | exact gm_le_nil | refine gm_le_c ?_ | refine gm_le_n ?_)
        ·
          refine go_iconst (v := 0) hC dX2_sendBlocks_22 (by decide) ?_
          refine go_istore_n hC 3 dX2_sendBlocks_23 rfl (Nat.le_of_ble_eq_true rfl) ?_
          simp only [gm_s0, gm_s1]
          have lp24 : (fun i : Nat => GO lyC X 0 0 24 [some (.ref (gm_ad X 2 0)), some (.int (nI j)), some (.ref (gm_ad X 1 j)), some (.int (nI i)), none] [] (iter (sb1 j) i (iter sb2 j M))) 0 := by
            refine loopN (2) (fun i : Nat => GO lyC X 0 0 24 [some (.ref (gm_ad X 2 0)), some (.int (nI j)), some (.ref (gm_ad X 1 j)), some (.int (nI i)), none] [] (iter (sb1 j) i (iter sb2 j M))) ?_ (fun i hi ihi => ?_)
            · try dsimp only
              refine go_iload_n hC dX2_sendBlocks_24 rfl ?_
              refine go_iconst (v := 2) hC dX2_sendBlocks_25 (by decide) ?_
              refine go_icmp_ge hC 68 dX2_sendBlocks_26 (by decide) (fun h26 => ?_) (fun h26 => ?_)
              ·
                refine go_iinc (v := 1) hC dX2_sendBlocks_68 rfl (by decide) ?_
                simp only [gm_s0, gm_s1]
                refine go_goto hC 2 dX2_sendBlocks_71 (by decide) ?_
                rw [nI_1]
                refine go_sub (go_mem ?_ ih) ?_
                · rw [iter_s sb2 j]
                  first | exact (if_pos h19).symm | exact (if_neg h19).symm
                repeat (first | exact gm_le_nil | refine gm_le_c ?_ | refine gm_le_n ?_)
              ·
                exact absurd (show nI 2 ≤ nI 2 from nI_le (Nat.le_refl _) (by decide)) h26
            · try dsimp only at ihi ⊢
              have hIc : IVS (iter (sb1 j) i (iter sb2 j M)) := iter_invL 2 (fun k M hk hM => sb1_IVS hj hk hM) hIj i (by omega)
              refine go_iload_n hC dX2_sendBlocks_24 rfl ?_
              refine go_iconst (v := 2) hC dX2_sendBlocks_25 (by decide) ?_
              refine go_icmp_ge hC 68 dX2_sendBlocks_26 (by decide) (fun h26 => ?_) (fun h26 => ?_)
              ·
                exact absurd h26 (show ¬ nI 2 ≤ nI i from nI_ge hi (by decide))
              ·
                refine go_aload_n hC dX2_sendBlocks_29 rfl ?_
                refine go_getr (ci := 1) hC 0 kwX2_sendBlocks_1 rfl rfl (by decide) rfl lkX2_sendBlocks_240 (by first | decide | (show _ < 5; omega) | (show _ < 10; omega) | omega) dX2_sendBlocks_30 ?_
                refine go_iload_n hC dX2_sendBlocks_33 rfl ?_
                refine go_aald hC rfl (fun _ => rfl) (by first | decide | (show _ < 5; omega) | (show _ < 10; omega) | omega) (gm_in rfl (by omega) (by decide)) (gm_cl5 rfl (by omega)) dX2_sendBlocks_34 ?_
                refine go_astore hC dX2_sendBlocks_35 (Nat.le_of_ble_eq_true rfl) ?_
                simp only [gm_s0, gm_s1]
                refine go_aload_n hC dX2_sendBlocks_37 rfl ?_
                refine go_aload hC dX2_sendBlocks_38 rfl ?_
                refine go_iload_n hC dX2_sendBlocks_40 rfl ?_
                refine go_iload_n hC dX2_sendBlocks_41 rfl ?_
                refine go_callV (n := 3) (k0 := 2) (n0 := 0) hC hX (c_X2_sendFrom _ (2 * j + i) j _ (by omega) (by omega) _ (hIc.iv (c := 2 * j + i) (by omega)).2 (hIc.iv (c := 2 * j + i) (by omega)).1) gX2_sendBlocks_X2_sendFrom rfl (by decide +kernel) ⟨rfl, rfl⟩ (by rw [hR]; exact ⟨by decide, by decide⟩) (by rw [hR]; exact ⟨by decide, by decide⟩) rfl rfl rfl (by first | decide | (show _ < 5; omega) | (show _ < 10; omega) | omega) rfl rfl rfl (Nat.le_of_ble_eq_true rfl) dX2_sendBlocks_42 ?_
                simp only [gm_r0, gm_r1]
                have hIa : IVS (sbA j i (iter (sb1 j) i (iter sb2 j M))) := sbA_IVS hj hi hIc
                refine go_aload_n hC dX2_sendBlocks_45 rfl ?_
                refine go_geti (ci := 1) hC 14 kwX2_sendBlocks_1 rfl rfl (by decide) rfl lkX2_sendBlocks_135 (by first | decide | (show _ < 5; omega) | (show _ < 10; omega) | omega) dX2_sendBlocks_46 ?_
                refine go_if_ne hC 62 dX2_sendBlocks_49 (by decide) (fun h49 => ?_) (fun h49 => ?_)
                ·
                  refine go_iinc (v := 1) hC dX2_sendBlocks_62 rfl (by decide) ?_
                  simp only [gm_s0, gm_s1]
                  refine go_goto hC 24 dX2_sendBlocks_65 (by decide) ?_
                  rw [nI_1]
                  refine go_sub (go_mem ?_ ihi) ?_
                  · rw [iter_s (sb1 j) i]
                    first | exact (if_pos h49).symm | exact (if_neg h49).symm
                  repeat (first | exact gm_le_nil | refine gm_le_c ?_ | refine gm_le_n ?_)
                ·
                  refine go_aload hC dX2_sendBlocks_52 rfl ?_
                  refine go_aload hC dX2_sendBlocks_54 rfl ?_
                  refine go_callV (n := 0) (k0 := 0) (n0 := 2 * j + i) hC hX (c_X0_load _ _ _ (by omega) (hIa.q (c := 2 * j + i) (by omega)).1 (hIa.q (c := 2 * j + i) (by omega)).2) gX2_sendBlocks_X0_load rfl (by decide +kernel) ⟨rfl, rfl⟩ (by rw [hR]; exact ⟨by decide, by decide⟩) (by rw [hR]; exact ⟨by decide, by decide⟩) rfl rfl rfl (by first | decide | (show _ < 5; omega) | (show _ < 10; omega) | omega) rfl rfl rfl (Nat.le_of_ble_eq_true rfl) dX2_sendBlocks_56 ?_
                  simp only [gm_r0, gm_r1]
                  refine go_puti (ci := 0) hC 8 kwX2_sendBlocks_0 rfl tyX0 tyX0_ok nmX0 rfl (by decide) rfl lkX2_sendBlocks_209 (by first | decide | (show _ < 5; omega) | (show _ < 10; omega) | omega) rfl rfl rfl dX2_sendBlocks_59 ?_
                  refine go_iinc (v := 1) hC dX2_sendBlocks_62 rfl (by decide) ?_
                  simp only [gm_s0, gm_s1]
                  refine go_goto hC 24 dX2_sendBlocks_65 (by decide) ?_
                  rw [nI_1]
                  refine go_sub (go_mem ?_ ihi) ?_
                  · rw [iter_s (sb1 j) i]
                    first | exact (if_pos h49).symm | exact (if_neg h49).symm
                  repeat (first | exact gm_le_nil | refine gm_le_c ?_ | refine gm_le_n ?_)
          try dsimp only at lp24
          refine go_sub lp24 ?_
          repeat (first | exact gm_le_nil | refine gm_le_c ?_ | refine gm_le_n ?_)
  try dsimp only at lp2
  refine go_iconst (v := 0) hC dX2_sendBlocks_0 (by decide) ?_
  refine go_istore_n hC 1 dX2_sendBlocks_1 rfl (Nat.le_of_ble_eq_true rfl) ?_
  simp only [gm_s0, gm_s1]
  exact lp2
def frA (M : gm_M) : gm_M := gm_up M 2 9 0 (M 2 9 0 + 1)
def frB (M : gm_M) : gm_M := gm_up (frA M) 2 7 0 0
def frQ (M : gm_M) : gm_M := gm_up (frB M) 2 8 0 0
def frW (M : gm_M) : gm_M := iter we2 5 (frB M)
def frC (M : gm_M) (b : Nat) : gm_M := iter cm2 5 (lbP (mmF (frW M) b) 5).1
def frZ (M : gm_M) (b : Nat) : gm_M := iter csF 5 (iter tdF 5 (iter sb2 5 (frC M b)))
def frM (M : gm_M) (o b : Nat) : gm_M := if M 4 o 0 = 0 then (if M 2 8 0 = 0 then frZ M b else pqF (frQ M)) else dkF (frA M) (1 - o)
def frR (M : gm_M) (o b : Nat) : Int32 := if M 4 o 0 = 0 then (if M 2 8 0 = 0 then frZ M b 2 11 0 - M 2 11 0 else -2) else -1
theorem kwX2_frame_2 : ∀ w ∈ wsX20, w ∈ wsX2_frame := by decide +kernel
theorem lkX2_frame_15 : Cond.fieldLink RX2 15 "SharedFibre" "cut" "[Z" ∈ wsX2_frame := by decide +kernel
theorem lkX2_frame_140 : Cond.fieldLink RX2 140 "SharedFibre" "quietAsked" "Z" ∈ wsX2_frame := by decide +kernel
theorem lkX2_frame_143 : Cond.fieldLink RX2 143 "SharedFibre" "frames" "I" ∈ wsX2_frame := by decide +kernel
theorem lkX2_frame_146 : Cond.fieldLink RX2 146 "SharedFibre" "active" "I" ∈ wsX2_frame := by decide +kernel
theorem lkX2_frame_152 : Cond.fieldLink RX2 152 "SharedFibre" "darkInRow" "I" ∈ wsX2_frame := by decide +kernel
theorem lkX2_frame_158 : Cond.fieldLink RX2 158 "SharedFibre" "arrived" "I" ∈ wsX2_frame := by decide +kernel
set_option maxHeartbeats 4000000 in
set_option maxRecDepth 100000 in
/-- frame -/
theorem c_X2_frame (M : gm_M) (o b : Nat) (ho : M 2 6 0 = nI o) (ho1 : o ≤ 1) (hb31 : b < 2 ^ 31) (hb : M 4 o 0 = 0 → M 2 8 0 = 0 → mmL (frW M) 5 = nI b) (hI : M 4 o 0 = 0 → M 2 8 0 = 0 → IVS (frC M b)) : KC lyC yX2_frame wsX2_frame ({ frames := 4, cells := 0, slots := 0, locals := 103 }) (fun ad => [.ref (ad 2 0)]) M (fun _ => some (.int (frR M o b))) (frM M o b) := by
  refine KC.of_i (by decide) rfl rfl (fun _ => by simp) (fun _ => by simp [Value.category])  ?_
  intro X hC hR hX hE
  simp only [List.map_cons, List.map_nil, List.cons_append, List.nil_append, List.length_cons, List.length_nil, List.replicate, Nat.reduceAdd, Nat.reduceSub]
  refine go_aload_n hC dX2_frame_0 rfl ?_
  refine go_dup hC dX2_frame_1 rfl ?_
  refine go_geti (ci := 2) hC 9 kwX2_frame_2 rfl rfl (by decide) rfl lkX2_frame_143 (by first | decide | (show _ < 5; omega) | (show _ < 10; omega) | omega) dX2_frame_2 ?_
  refine go_iconst (v := 1) hC dX2_frame_5 (by decide) ?_
  refine go_iadd hC dX2_frame_6 ?_
  refine go_puti (ci := 2) hC 9 kwX2_frame_2 rfl tyX2 tyX2_ok nmX2 rfl (by decide) rfl lkX2_frame_143 (by first | decide | (show _ < 5; omega) | (show _ < 10; omega) | omega) rfl rfl rfl dX2_frame_7 ?_
  refine go_aload_n hC dX2_frame_10 rfl ?_
  refine go_getr (ci := 2) hC 1 kwX2_frame_2 rfl rfl (by decide) rfl lkX2_frame_15 (by first | decide | (show _ < 5; omega) | (show _ < 10; omega) | omega) dX2_frame_11 ?_
  refine go_aload_n hC dX2_frame_14 rfl ?_
  refine go_geti (ci := 2) hC 6 kwX2_frame_2 rfl rfl (by decide) rfl lkX2_frame_146 (by first | decide | (show _ < 5; omega) | (show _ < 10; omega) | omega) dX2_frame_15 ?_
  refine go_zald hC rfl (by first | decide | (show _ < 5; omega) | (show _ < 10; omega) | omega) (gm_in (n := o) ((gm_un2 (by decide)).trans ho) (by omega) (by decide)) (gm_cl (n := o) ((gm_un2 (by decide)).trans ho) (by omega)) dX2_frame_18 ?_
  refine go_if_eq hC 28 dX2_frame_19 (by decide) (fun h19 => ?_) (fun h19 => ?_)
  ·
    rw [gm_un1 (by decide)] at h19
    refine go_aload_n hC dX2_frame_28 rfl ?_
    refine go_iconst (v := 0) hC dX2_frame_29 (by decide) ?_
    refine go_puti (ci := 2) hC 7 kwX2_frame_2 rfl tyX2 tyX2_ok nmX2 rfl (by decide) rfl lkX2_frame_152 (by first | decide | (show _ < 5; omega) | (show _ < 10; omega) | omega) rfl rfl rfl dX2_frame_30 ?_
    refine go_aload_n hC dX2_frame_33 rfl ?_
    refine go_geti (ci := 2) hC 8 kwX2_frame_2 rfl rfl (by decide) rfl lkX2_frame_140 (by first | decide | (show _ < 5; omega) | (show _ < 10; omega) | omega) dX2_frame_34 ?_
    refine go_if_eq hC 52 dX2_frame_37 (by decide) (fun h37 => ?_) (fun h37 => ?_)
    ·
      rw [gm_un2 (by decide), gm_un2 (by decide)] at h37
      refine go_aload_n hC dX2_frame_52 rfl ?_
      refine go_geti (ci := 2) hC 11 kwX2_frame_2 rfl rfl (by decide) rfl lkX2_frame_158 (by first | decide | (show _ < 5; omega) | (show _ < 10; omega) | omega) dX2_frame_53 ?_
      refine go_istore_n hC 1 dX2_frame_56 rfl (Nat.le_of_ble_eq_true rfl) ?_
      simp only [gm_s0, gm_s1]
      refine go_aload_n hC dX2_frame_57 rfl ?_
      refine go_callV (n := 0) (k0 := 2) (n0 := 0) hC hX (c_X2_watchErrors (frB M)) gX2_frame_X2_watchErrors rfl (by decide +kernel) ⟨rfl, rfl⟩ (by rw [hR]; exact ⟨by decide, by decide⟩) (by rw [hR]; exact ⟨by decide, by decide⟩) rfl rfl rfl (by first | decide | (show _ < 5; omega) | (show _ < 10; omega) | omega) rfl rfl rfl (Nat.le_of_ble_eq_true rfl) dX2_frame_58 ?_
      simp only [gm_r0, gm_r1]
      refine go_aload_n hC dX2_frame_61 rfl ?_
      refine go_callV (n := 0) (k0 := 2) (n0 := 0) hC hX (c_X2_makeMap (frW M) b (hb h19 h37) hb31) gX2_frame_X2_makeMap rfl (by decide +kernel) ⟨rfl, rfl⟩ (by rw [hR]; exact ⟨by decide, by decide⟩) (by rw [hR]; exact ⟨by decide, by decide⟩) rfl rfl rfl (by first | decide | (show _ < 5; omega) | (show _ < 10; omega) | omega) rfl rfl rfl (Nat.le_of_ble_eq_true rfl) dX2_frame_62 ?_
      simp only [gm_r0, gm_r1]
      refine go_aload_n hC dX2_frame_65 rfl ?_
      refine go_callV (n := 0) (k0 := 2) (n0 := 0) hC hX (c_X2_layBursts _) gX2_frame_X2_layBursts rfl (by decide +kernel) ⟨rfl, rfl⟩ (by rw [hR]; exact ⟨by decide, by decide⟩) (by rw [hR]; exact ⟨by decide, by decide⟩) rfl rfl rfl (by first | decide | (show _ < 5; omega) | (show _ < 10; omega) | omega) rfl rfl rfl (Nat.le_of_ble_eq_true rfl) dX2_frame_66 ?_
      simp only [gm_r0, gm_r1]
      refine go_aload_n hC dX2_frame_69 rfl ?_
      refine go_callV (n := 0) (k0 := 2) (n0 := 0) hC hX (c_X2_countMeetings _) gX2_frame_X2_countMeetings rfl (by decide +kernel) ⟨rfl, rfl⟩ (by rw [hR]; exact ⟨by decide, by decide⟩) (by rw [hR]; exact ⟨by decide, by decide⟩) rfl rfl rfl (by first | decide | (show _ < 5; omega) | (show _ < 10; omega) | omega) rfl rfl rfl (Nat.le_of_ble_eq_true rfl) dX2_frame_70 ?_
      simp only [gm_r0, gm_r1]
      refine go_aload_n hC dX2_frame_73 rfl ?_
      refine go_callV (n := 0) (k0 := 2) (n0 := 0) hC hX (c_X2_sendBlocks (frC M b) (hI h19 h37)) gX2_frame_X2_sendBlocks rfl (by decide +kernel) ⟨rfl, rfl⟩ (by rw [hR]; exact ⟨by decide, by decide⟩) (by rw [hR]; exact ⟨by decide, by decide⟩) rfl rfl rfl (by first | decide | (show _ < 5; omega) | (show _ < 10; omega) | omega) rfl rfl rfl (Nat.le_of_ble_eq_true rfl) dX2_frame_74 ?_
      simp only [gm_r0, gm_r1]
      refine go_aload_n hC dX2_frame_77 rfl ?_
      refine go_callV (n := 0) (k0 := 2) (n0 := 0) hC hX (c_X2_tellDown _) gX2_frame_X2_tellDown rfl (by decide +kernel) ⟨rfl, rfl⟩ (by rw [hR]; exact ⟨by decide, by decide⟩) (by rw [hR]; exact ⟨by decide, by decide⟩) rfl rfl rfl (by first | decide | (show _ < 5; omega) | (show _ < 10; omega) | omega) rfl rfl rfl (Nat.le_of_ble_eq_true rfl) dX2_frame_78 ?_
      simp only [gm_r0, gm_r1]
      refine go_aload_n hC dX2_frame_81 rfl ?_
      refine go_callV (n := 0) (k0 := 2) (n0 := 0) hC hX (c_X2_clearSpoilt _) gX2_frame_X2_clearSpoilt rfl (by decide +kernel) ⟨rfl, rfl⟩ (by rw [hR]; exact ⟨by decide, by decide⟩) (by rw [hR]; exact ⟨by decide, by decide⟩) rfl rfl rfl (by first | decide | (show _ < 5; omega) | (show _ < 10; omega) | omega) rfl rfl rfl (Nat.le_of_ble_eq_true rfl) dX2_frame_82 ?_
      simp only [gm_r0, gm_r1]
      refine go_aload_n hC dX2_frame_85 rfl ?_
      refine go_geti (ci := 2) hC 11 kwX2_frame_2 rfl rfl (by decide) rfl lkX2_frame_158 (by first | decide | (show _ < 5; omega) | (show _ < 10; omega) | omega) dX2_frame_86 ?_
      refine go_iload_n hC dX2_frame_89 rfl ?_
      refine go_isub hC dX2_frame_90 ?_
      refine go_cast ?_ ?_ (hE _ _ dX2_frame_91)
      · rw [show frR M o b = _ from if_pos h19, if_pos h37, gm_un2 (by decide), gm_un2 (by decide)]
        rfl
      · rw [show frM M o b = _ from if_pos h19, if_pos h37]
        rfl
    ·
      rw [gm_un2 (by decide), gm_un2 (by decide)] at h37
      refine go_aload_n hC dX2_frame_40 rfl ?_
      refine go_iconst (v := 0) hC dX2_frame_41 (by decide) ?_
      refine go_puti (ci := 2) hC 8 kwX2_frame_2 rfl tyX2 tyX2_ok nmX2 rfl (by decide) rfl lkX2_frame_140 (by first | decide | (show _ < 5; omega) | (show _ < 10; omega) | omega) rfl (by decide) (by decide) dX2_frame_42 ?_
      refine go_aload_n hC dX2_frame_45 rfl ?_
      refine go_callV (n := 0) (k0 := 2) (n0 := 0) hC hX (c_X2_passQuiet (frQ M)) gX2_frame_X2_passQuiet rfl (by decide +kernel) ⟨rfl, rfl⟩ (by rw [hR]; exact ⟨by decide, by decide⟩) (by rw [hR]; exact ⟨by decide, by decide⟩) rfl rfl rfl (by first | decide | (show _ < 5; omega) | (show _ < 10; omega) | omega) rfl rfl rfl (Nat.le_of_ble_eq_true rfl) dX2_frame_46 ?_
      simp only [gm_r0, gm_r1]
      refine go_bipush (v := (-2)) hC dX2_frame_49 (by decide) ?_
      refine go_cast ?_ ?_ (hE _ _ dX2_frame_51)
      · rw [show frR M o b = _ from if_pos h19, if_neg h37]
      · rw [show frM M o b = _ from if_pos h19, if_neg h37]
  ·
    rw [gm_un1 (by decide)] at h19
    refine go_aload_n hC dX2_frame_22 rfl ?_
    refine go_callV (n := 0) (k0 := 2) (n0 := 0) hC hX (c_X2_passDark (frA M) o ((gm_un2 (by decide)).trans ho) ho1) gX2_frame_X2_passDark rfl (by decide +kernel) ⟨rfl, rfl⟩ (by rw [hR]; exact ⟨by decide, by decide⟩) (by rw [hR]; exact ⟨by decide, by decide⟩) rfl rfl rfl (by first | decide | (show _ < 5; omega) | (show _ < 10; omega) | omega) rfl rfl rfl (Nat.le_of_ble_eq_true rfl) dX2_frame_23 ?_
    simp only [gm_r0, gm_r1]
    refine go_iconst (v := (-1)) hC dX2_frame_26 (by decide) ?_
    refine go_cast ?_ ?_ (hE _ _ dX2_frame_27)
    · rw [show frR M o b = -1 from if_neg h19]
    · rw [show frM M o b = _ from if_neg h19]
