/-! ===== contract ===== -/
theorem bx_skip (g : Nat → Int32) (C : Nat) : ∀ n, bx_sum g n = bx_sum (fun k => if k = C then 0 else g k) n + (if C < n then g C else 0)
  | 0 => by rw [if_neg (by omega)]; rfl
  | n + 1 => by
    show bx_sum g n + g n = (bx_sum (fun k => if k = C then 0 else g k) n + (if n = C then 0 else g n)) + _
    rw [bx_skip g C n]
    by_cases h1 : C < n
    · rw [if_pos h1, if_neg (show ¬ n = C by omega), if_pos (show C < n + 1 by omega), Int32.add_assoc, Int32.add_assoc, Int32.add_comm (g C)]
    · by_cases h2 : n = C
      · subst h2
        rw [if_neg h1, if_pos rfl, if_pos (Nat.lt_succ_self n), Int32.add_zero]
      · rw [if_neg h1, if_neg h2, if_neg (show ¬ C < n + 1 by omega), Int32.add_zero, Int32.add_zero]
theorem i_can (S x y f a : Int32) : (((S + (x + y)) - x) - y + f) + a = f + a + S := by
  have e : ((S + (x + y)) - x) - y = S := by
    rw [Int32.add_comm x y, ← Int32.add_assoc, Int32.add_sub_cancel, Int32.add_sub_cancel]
  rw [e, Int32.add_assoc, Int32.add_comm]
theorem bx_nI (f : Nat → Nat) (g : Nat → Int32) : ∀ n, (∀ k, k < n → g k = nI (f k)) → bx_sum g n = nI ((List.range n).map f).sum
  | 0, _ => rfl
  | n + 1, h => by
    show bx_sum g n + g n = _
    rw [bx_nI f g n (fun k hk => h k (by omega)), h n (by omega), nI_add, List.range_succ, List.map_append, List.sum_append]
    simp
theorem qs_list (f : Nat → Nat) : ((List.range 10).map f).sum = qs f := by
  simp [List.range_succ, qs]
  omega
theorem prop2 {A B F N D K R g1 g2 : Prop} (key : ¬ F → ¬ N → ¬ D → (K ↔ R)) : (A ∨ B ∨ F ∨ N ∨ D ∨ K ∨ g1 ∨ g2) ↔ (((A ∨ B) ∨ F ∨ N ∨ D ∨ g1 ∨ g2) ∨ R) := by
  by_cases hF : F
  · simp [hF]
  · by_cases hN : N
    · simp [hN]
    · by_cases hD : D
      · simp [hD]
      · rw [key hF hN hD]
        by_cases hR : R
        · simp [hR]
        · simp [hF, hN, hD, hR, or_assoc]
theorem ct_sum {M G : gm_M} {C : Nat} {f a : Int32} (h : ∀ k, k < 10 → M 0 4 k = G 20 k 0 ∧ M 0 5 k = G 21 k 0) (hC : C < 10) : ((((bx_sum (fun k => M 0 4 k + M 0 5 k) 10 - M 0 4 C) - M 0 5 C) + f) + a) = f + a + bx_sum (fun k => if k = C then 0 else G 20 k 0 + G 21 k 0) 10 := by
  have e0 := bx_skip (fun k => M 0 4 k + M 0 5 k) C 10
  rw [if_pos hC] at e0
  have e1 : bx_sum (fun k => if k = C then 0 else M 0 4 k + M 0 5 k) 10 = bx_sum (fun k => if k = C then 0 else G 20 k 0 + G 21 k 0) 10 := bx_congr 10 (fun k hk => by
    rw [(h k hk).1, (h k hk).2])
  rw [e1] at e0
  generalize bx_sum (fun k => if k = C then 0 else G 20 k 0 + G 21 k 0) 10 = S at e0 ⊢
  generalize bx_sum (fun k => M 0 4 k + M 0 5 k) 10 = T at e0 ⊢
  rw [e0]
  exact i_can S _ _ f a
theorem ct_qs {M G : gm_M} {C F A : Nat} {f a : Int32} {fF aF : Nat → Nat} (h : ∀ k, k < 10 → M 0 4 k = G 20 k 0 ∧ M 0 5 k = G 21 k 0) (hC : C < 10) (hF : f = nI F) (hA : a = nI A) (hF6 : F ≤ 60) (hA6 : A ≤ 60) (hf : ∀ c, c < 10 → M 0 4 c = nI (fF c) ∧ M 0 5 c = nI (aF c)) (hsum : qs fF + qs aF ≤ 55) (hs' : f + a + bx_sum (fun k => if k = C then 0 else G 20 k 0 + G 21 k 0) 10 ≤ 55) : qs (fun x => if x = C then F else fF x) + qs (fun x => if x = C then A else aF x) ≤ 55 := by
  have e1 : bx_sum (fun k => if k = C then 0 else G 20 k 0 + G 21 k 0) 10 = nI (qs (fun k => if k = C then 0 else fF k + aF k)) := by
    rw [← qs_list]
    refine bx_nI _ _ 10 (fun k hk => ?_)
    by_cases e : k = C
    · simp only [if_pos e]; rfl
    · simp only [if_neg e]
      rw [← (h k hk).1, ← (h k hk).2, (hf k hk).1, (hf k hk).2, nI_add]
  generalize bx_sum (fun k => if k = C then 0 else G 20 k 0 + G 21 k 0) 10 = S at e1 hs'
  have e2 := qs_upd (fun k => fF k + aF k) 0 C hC
  have e3 : qs (fun k => fF k + aF k) = qs fF + qs aF := by simp only [qs]; omega
  have e4 : qs (fun x => if x = C then 0 else fF x + aF x) ≤ 55 := by omega
  rw [hF, hA, e1, nI_add, nI_add] at hs'
  have e5 := (nI_leI (b := 55) (by omega) (by decide)).mp hs'
  have e6 := qs_upd fF F C hC
  have e7 := qs_upd aF A C hC
  omega
set_option maxHeartbeats 4000000 in
theorem sim_contract0 {M G : gm_M} (h : RR M G) (u c f a m g S1 S2 : Int32) (hS : ¬ (aW M u ∨ bC c ∨ f < 0 ∨ a < 0 ∨ 60 < m ∨ ¬ lg_cmp (f.toInt64 + a.toInt64) m.toInt64 ≤ 0 ∨ g < 1 ∨ ¬ g ≤ 9) → S1 = S2) (hsum9 : ∀ (F A : Nat) (fF aF : Nat → Nat), 2 * uN u + uN c < 10 → f = nI F → a = nI A → F ≤ 60 → A ≤ 60 → (∀ c, c < 10 → M 0 4 c = nI (fF c) ∧ M 0 5 c = nI (aF c)) → qs fF + qs aF ≤ 55 → S2 ≤ 55 → qs (fun x => if x = 2 * uN u + uN c then F else fF x) + qs (fun x => if x = 2 * uN u + uN c then A else aF x) ≤ 55) : cod1 (thF (aW M u ∨ bC c ∨ f < 0 ∨ a < 0 ∨ 60 < m ∨ ¬ lg_cmp (f.toInt64 + a.toInt64) m.toInt64 ≤ 0 ∨ g < 1 ∨ ¬ g ≤ 9) "java/lang/IllegalArgumentException" (thF (¬ S1 ≤ 55) "java/lang/IllegalStateException" none)) = tM (((wM G u ∨ bC c) ∨ f < 0 ∨ a < 0 ∨ 60 < m ∨ g < 1 ∨ ¬ g ≤ 9) ∨ 60 < f ∨ 60 < a ∨ ¬ f + a ≤ m) (gm_up G 0 0 0 1) (tM (¬ S2 ≤ 55) (gm_up G 0 0 0 2) (ctM G (2 * uN u + uN c) f a m g)) 0 0 0
    ∧ RR (tO (thF (aW M u ∨ bC c ∨ f < 0 ∨ a < 0 ∨ 60 < m ∨ ¬ lg_cmp (f.toInt64 + a.toInt64) m.toInt64 ≤ 0 ∨ g < 1 ∨ ¬ g ≤ 9) "java/lang/IllegalArgumentException" (thF (¬ S1 ≤ 55) "java/lang/IllegalStateException" none)) (ctF M (2 * uN u + uN c) f a m g) M) (tM (((wM G u ∨ bC c) ∨ f < 0 ∨ a < 0 ∨ 60 < m ∨ g < 1 ∨ ¬ g ≤ 9) ∨ 60 < f ∨ 60 < a ∨ ¬ f + a ≤ m) (gm_up G 0 0 0 1) (tM (¬ S2 ≤ 55) (gm_up G 0 0 0 2) (ctM G (2 * uN u + uN c) f a m g))) := by
  rw [cod_cd]
  have hlg := lg_cmp_le
  have hP : (aW M u ∨ bC c ∨ f < 0 ∨ a < 0 ∨ 60 < m ∨ ¬ lg_cmp (f.toInt64 + a.toInt64) m.toInt64 ≤ 0 ∨ g < 1 ∨ ¬ g ≤ 9) ↔ (((wM G u ∨ bC c) ∨ f < 0 ∨ a < 0 ∨ 60 < m ∨ g < 1 ∨ ¬ g ≤ 9) ∨ 60 < f ∨ 60 < a ∨ ¬ f + a ≤ m) := by
    rw [← h.away u]
    have key : ¬ f < 0 → ¬ a < 0 → ¬ 60 < m → ((¬ lg_cmp (f.toInt64 + a.toInt64) m.toInt64 ≤ 0) ↔ (60 < f ∨ 60 < a ∨ ¬ f + a ≤ m)) := by
      intro k1 k2 k3
      obtain ⟨F, hF, rfl⟩ := nI_of k1
      obtain ⟨A, hA, rfl⟩ := nI_of k2
      rw [hlg, nI_l hF, nI_l hA, lN_add, nI_add]
      have hm : m.toInt ≤ 60 := by
        rw [Int32.lt_iff_toInt_lt] at k3
        simpa using k3
      have e1 : (lN (F + A) ≤ m.toInt64) ↔ ((F + A : Nat) : Int) ≤ m.toInt := by
        rw [Int64.le_iff_toInt_le, pk_lT (by omega), Int32.toInt_toInt64]
      rw [e1]
      by_cases h1 : (60 : Int32) < nI F
      · have : 60 < F := (nI_ltI (a := 60) (by decide) hF).mp h1
        exact ⟨fun _ => Or.inl h1, fun _ => by omega⟩
      · have hF6 : F ≤ 60 := Nat.le_of_not_lt (fun z => h1 ((nI_ltI (a := 60) (by decide) hF).mpr z))
        by_cases h2 : (60 : Int32) < nI A
        · have : 60 < A := (nI_ltI (a := 60) (by decide) hA).mp h2
          exact ⟨fun _ => Or.inr (Or.inl h2), fun _ => by omega⟩
        · have hA6 : A ≤ 60 := Nat.le_of_not_lt (fun z => h2 ((nI_ltI (a := 60) (by decide) hA).mpr z))
          have e2 : (nI (F + A) ≤ m) ↔ ((F + A : Nat) : Int) ≤ m.toInt := by rw [Int32.le_iff_toInt_le, nI_toInt (by omega)]
          rw [e2]
          exact ⟨fun z => Or.inr (Or.inr z), fun z => (z.resolve_left h1).resolve_left h2⟩
    exact prop2 key
  have hC0 : ¬ (aW M u ∨ bC c ∨ f < 0 ∨ a < 0 ∨ 60 < m ∨ ¬ lg_cmp (f.toInt64 + a.toInt64) m.toInt64 ≤ 0 ∨ g < 1 ∨ ¬ g ≤ 9) → 2 * uN u + uN c < 10 ∧ (2 * uN u + uN c) / 2 = uN u := fun hb => by
    have h1 := (bU_ix (u := u) (fun z => hb (Or.inl (Or.inl z)))).2
    have h2 := (bC_ix (u := c) (fun z => hb (Or.inr (Or.inl z)))).2
    omega
  by_cases hb : ((wM G u ∨ bC c) ∨ f < 0 ∨ a < 0 ∨ 60 < m ∨ g < 1 ∨ ¬ g ≤ 9) ∨ 60 < f ∨ 60 < a ∨ ¬ f + a ≤ m
  · rw [tM_t hb, tO_t (hP.mpr hb), cdF_1 (hP.mpr hb), gm_us]
    exact ⟨rfl, h.thrown 1⟩
  · have hb1 := fun z => hb (hP.mp z)
    rw [tM_f hb, hS hb1]
    by_cases hs : ¬ S2 ≤ 55
    · rw [tM_t hs, cdF_2 hb1 hs, gm_us, thF_f hb1, tO_t hs]
      exact ⟨rfl, h.thrown 2⟩
    · rw [tM_f hs, cdF_0 hb1 hs, tO_f ((thF_f hb1).trans (thF_f hs))]
      have hs' : S2 ≤ 55 := Classical.byContradiction hs
      obtain ⟨hC, hCn⟩ := hC0 hb1
      have hst : ¬ G 2 (uN u) 0 = 0 := (h.here (fun z => hb1 (Or.inl ((h.away u).mpr z)))).2.2.1
      have k1 : ¬ f < 0 := fun z => hb1 (Or.inr (Or.inr (Or.inl z)))
      have k2 : ¬ a < 0 := fun z => hb1 (Or.inr (Or.inr (Or.inr (Or.inl z))))
      have k3 : ¬ 60 < f := fun z => hb (Or.inr (Or.inl z))
      have k4 : ¬ 60 < a := fun z => hb (Or.inr (Or.inr (Or.inl z)))
      generalize 2 * uN u + uN c = C at hC hCn hsum9 ⊢
      rw [← hCn] at hst
      obtain ⟨F, hF, rfl⟩ := nI_of k1
      obtain ⟨A, hA, rfl⟩ := nI_of k2
      have hF6 : F ≤ 60 := Nat.le_of_not_lt (fun z => k3 ((nI_ltI (a := 60) (by decide) hF).mpr z))
      have hA6 : A ≤ 60 := Nat.le_of_not_lt (fun z => k4 ((nI_ltI (a := 60) (by decide) hA).mpr z))
      have hM : ∀ k f m', ¬ (k = 0 ∧ 4 ≤ f ∧ f ≤ 7 ∧ m' = C) → ctF M C (nI F) (nI A) m g k f m' = M k f m' := fun k f m' k1 => by
        rw [ctF, gm_unA (by omega), gm_unA (by omega), gm_unA (by omega), gm_unA (by omega)]
      have hG : ∀ k f, ¬ (20 ≤ k ∧ k ≤ 23 ∧ f = C) → ¬ (k = 0 ∧ f = 0) → ctM G C (nI F) (nI A) m g k f 0 = G k f 0 := fun k f k1 k2 => by
        rw [ctM, gm_unA (by omega), gm_unA (by omega), gm_unA (by omega), gm_unA (by omega), gm_unA (by omega)]
      refine ⟨by rw [ctM, gm_un1 (by decide), gm_un1 (by decide), gm_un1 (by decide), gm_un1 (by decide), gm_us], ?_⟩
      obtain ⟨h1, h2, ⟨fF, aF, hf, hsum⟩, h4, d, a', q, num, h5⟩ := h
      refine ⟨fun v hv => (h1 v hv).congr (fun f => hM 1 f v (by omega)) (fun k hk hk2 => hG k v (by omega) (by omega)) (hG 0 7 (by omega) (by omega)), fun x hx => ?_, ⟨fun x => if x = C then F else fF x, fun x => if x = C then A else aF x, fun x hx => ?_, ?_⟩, h4.congr (fun f _ _ _ _ => hM 2 f 0 (by omega)) (fun f hf => hG 0 f (by omega) (by omega)) (fun f => hM 4 f 0 (by omega)) (fun f => hG 9 f (by omega) (by omega)), d, a', q, num, h5.congr (fun x hx => ⟨hM 0 2 x (by omega), hM 0 3 x (by omega)⟩) (fun k x => ⟨hM 10 k x (by omega), hM 11 k x (by omega)⟩) ⟨hM 2 10 0 (by omega), hM 2 11 0 (by omega)⟩ (fun k => hM 5 k 0 (by omega)) (fun k i hk => hG k i (by omega) (by omega)) ⟨hG 0 28 (by omega) (by omega), hG 0 31 (by omega) (by omega)⟩⟩
      · by_cases e : x = C
        · subst e
          obtain ⟨r1, r2, r3, r4, r5, r6, r7, r8, r9⟩ := h2 x hx
          rw [RC, hM 0 2 x (by omega), hM 0 8 x (by omega), hM 0 9 x (by omega), hG 24 x (by omega) (by omega), hG 25 x (by omega) (by omega), hG 27 x (by omega) (by omega), hG 2 (x / 2) (by omega) (by omega)]
          exact ⟨r1, by simp [ctF, ctM, gm_uA], by simp [ctF, ctM, gm_uA], by simp [ctF, ctM, gm_uA], r5, r6, fun _ => by simp [ctF, ctM, gm_uA], fun z => absurd z hst, r9⟩
        · exact (h2 x hx).congr (fun f _ _ => hM 0 f x (by omega)) (fun k _ _ _ => hG k x (by omega) (by omega)) (by rw [hG 2 (x / 2) (by omega) (by omega)])
      · by_cases e : x = C
        · subst e
          simp only [if_pos]
          exact ⟨by simp [ctF, gm_uA], by simp [ctF, gm_uA]⟩
        · simp only [if_neg e]
          rw [hM 0 4 x (by omega), hM 0 5 x (by omega)]
          exact hf x hx
      · exact hsum9 F A fF aF hC rfl rfl hF6 hA6 hf hsum hs'
set_option maxHeartbeats 4000000 in
theorem sim_contract {M G : gm_M} (h : RR M G) (u c f a m g : Int32) : cod1 (thF (aW M u ∨ bC c ∨ f < 0 ∨ a < 0 ∨ 60 < m ∨ ¬ lg_cmp (f.toInt64 + a.toInt64) m.toInt64 ≤ 0 ∨ g < 1 ∨ ¬ g ≤ 9) "java/lang/IllegalArgumentException" (thF (¬ ((((bx_sum (fun k => M 0 4 k + M 0 5 k) 10 - M 0 4 (2 * uN u + uN c)) - M 0 5 (2 * uN u + uN c)) + f) + a) ≤ 55) "java/lang/IllegalStateException" none)) = tM (((wM G u ∨ bC c) ∨ f < 0 ∨ a < 0 ∨ 60 < m ∨ g < 1 ∨ ¬ g ≤ 9) ∨ 60 < f ∨ 60 < a ∨ ¬ f + a ≤ m) (gm_up G 0 0 0 1) (tM (¬ (f + a + bx_sum (fun k => if k = (2 * uN u + uN c) then 0 else G 20 k 0 + G 21 k 0) 10) ≤ 55) (gm_up G 0 0 0 2) (ctM G (2 * uN u + uN c) f a m g)) 0 0 0
    ∧ RR (tO (thF (aW M u ∨ bC c ∨ f < 0 ∨ a < 0 ∨ 60 < m ∨ ¬ lg_cmp (f.toInt64 + a.toInt64) m.toInt64 ≤ 0 ∨ g < 1 ∨ ¬ g ≤ 9) "java/lang/IllegalArgumentException" (thF (¬ ((((bx_sum (fun k => M 0 4 k + M 0 5 k) 10 - M 0 4 (2 * uN u + uN c)) - M 0 5 (2 * uN u + uN c)) + f) + a) ≤ 55) "java/lang/IllegalStateException" none)) (ctF M (2 * uN u + uN c) f a m g) M) (tM (((wM G u ∨ bC c) ∨ f < 0 ∨ a < 0 ∨ 60 < m ∨ g < 1 ∨ ¬ g ≤ 9) ∨ 60 < f ∨ 60 < a ∨ ¬ f + a ≤ m) (gm_up G 0 0 0 1) (tM (¬ (f + a + bx_sum (fun k => if k = (2 * uN u + uN c) then 0 else G 20 k 0 + G 21 k 0) 10) ≤ 55) (gm_up G 0 0 0 2) (ctM G (2 * uN u + uN c) f a m g))) := by
  have hC0 : ¬ (aW M u ∨ bC c ∨ f < 0 ∨ a < 0 ∨ 60 < m ∨ ¬ lg_cmp (f.toInt64 + a.toInt64) m.toInt64 ≤ 0 ∨ g < 1 ∨ ¬ g ≤ 9) → 2 * uN u + uN c < 10 := fun hb => by
    have h1 := (bU_ix (u := u) (fun z => hb (Or.inl (Or.inl z)))).2
    have h2 := (bC_ix (u := c) (fun z => hb (Or.inr (Or.inl z)))).2
    omega
  refine sim_contract0 h u c f a m g _ _ (fun hb => ct_sum (fun k hk => ⟨(h.2.1 k hk).2.1, (h.2.1 k hk).2.2.1⟩) (hC0 hb)) (fun F A fF aF hC hF hA hF6 hA6 hf hsum hs => ct_qs (fun k hk => ⟨(h.2.1 k hk).2.1, (h.2.1 k hk).2.2.1⟩) hC hF hA hF6 hA6 hf hsum hs)
