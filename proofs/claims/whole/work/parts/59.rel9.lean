/-! ===== the frame (4): the spare ===== -/
/-- class and reference between two blocks of the spare -/
def SP (M G : gm_M) : Prop := (∀ c, c < 10 → M 0 9 c = G 25 c 0 ∧ M 0 10 c = G 26 c 0 ∧ M 0 6 c = G 22 c 0 ∧ M 0 8 c = G 24 c 0 ∧ (¬ G 2 (c / 2) 0 = 0 → M 0 7 c = G 23 c 0)) ∧ ∀ u, u < 5 → M 1 1 u = G 2 u 0
theorem SP_nW {M G : gm_M} (h : SP M G) {c : Nat} (hc : c < 10) : nW M c ↔ nWm G c := by
  obtain ⟨e1, e2, e3, e4, e5⟩ := h.1 c hc
  simp only [nW, nWm]
  rw [e1, e3, e4, h.2 (c / 2) (by omega)]
theorem ntg_nW {M : gm_M} : ∀ {c b : Nat}, ntgF M c = some b → nW M b
  | 0, b, h => by cases h
  | c + 1, b, h => by
    cases ho : ntgF M c with
    | none =>
      simp only [ntgF, ho] at h
      split at h
      · rename_i hn; cases h; exact hn
      · cases h
    | some b' =>
      have h1 := ntg_nW ho
      simp only [ntgF, ho] at h
      split at h
      · rename_i hn; cases h; exact hn.1
      · cases h; exact h1
theorem SP_next {M G : gm_M} (h : SP M G) : ∀ c, c ≤ 10 → ntgF M c = bsM G c
  | 0, _ => rfl
  | c + 1, hc => by
    have ih := SP_next h c (by omega)
    have hw := SP_nW h (c := c) (by omega)
    cases ho : ntgF M c with
    | none =>
      have ho' : bsM G c = none := ih.symm.trans ho
      by_cases n : nW M c
      · rw [ntg_B ho n, bsM_B ho' (hw.mp n)]
      · rw [ntg_A n, bsM_A (fun z => n (hw.mpr z)), ho, ho']
    | some b =>
      have ho' : bsM G c = some b := ih.symm.trans ho
      have hb := ntg_lt ho
      by_cases n : nW M c
      · have nb := ntg_nW ho
        have hl : nL M c b ↔ nLm G c b := by
          obtain ⟨e1, e2, e3, e4, e5⟩ := h.1 c (by omega)
          obtain ⟨f1, f2, f3, f4, f5⟩ := h.1 b (by omega)
          have s1 : G 2 (c / 2) 0 = 2 := (h.2 (c / 2) (by omega)).symm.trans n.1
          have s2 : G 2 (b / 2) 0 = 2 := (h.2 (b / 2) (by omega)).symm.trans nb.1
          simp only [nL, nLm]
          rw [e2, f2, e5 (by rw [s1]; decide), f5 (by rw [s2]; decide)]
        by_cases l : nL M c b
        · rw [ntg_C ho n l, bsM_C ho' (hw.mp n) (hl.mp l)]
        · rw [ntg_D ho l, bsM_D ho' (fun z => l (hl.mpr z))]
      · rw [ntg_A n, bsM_A (fun z => n (hw.mpr z)), ho, ho']
theorem gs_sim : ∀ (b : Nat) (M G : gm_M), SP M G → G 0 37 0 = nI b → (∀ c, c < 10 → ∃ g, g + b ≤ 115 ∧ M 0 9 c = nI g) →
    SP (gsF b M).1 (whM b G) ∧ (gsF b M).2 = whM b G 0 37 0 ∧ (∀ k f m, ¬ (k = 0 ∧ (f = 9 ∨ f = 10)) → (gsF b M).1 k f m = M k f m) ∧ (∀ k f, ¬ (k = 25 ∨ k = 26 ∨ (k = 0 ∧ f = 37)) → whM b G k f 0 = G k f 0) ∧ (∀ c, c < 10 → ∃ g, g ≤ 115 ∧ (gsF b M).1 0 9 c = nI g) ∧ (∀ c, ¬ M 1 1 (c / 2) = 2 → (gsF b M).1 0 9 c = M 0 9 c)
  | 0, M, G, h, hb, hg => ⟨h, hb.symm, fun _ _ _ _ => rfl, fun _ _ _ => rfl, fun c hc => by obtain ⟨g, h1, h2⟩ := hg c hc; exact ⟨g, by omega, h2⟩, fun _ _ => rfl⟩
  | b + 1, M, G, h, hb, hg => by
    have hn := SP_next h 10 (Nat.le_refl 10)
    cases ho : ntgF M 10 with
    | none =>
      rw [gs_n ho, whM_n (hn.symm.trans ho)]
      exact ⟨h, hb.symm, fun _ _ _ _ => rfl, fun _ _ _ => rfl, fun c hc => by obtain ⟨g, h1, h2⟩ := hg c hc; exact ⟨g, by omega, h2⟩, fun _ _ => rfl⟩
    | some c =>
      have hc := ntg_lt ho
      rw [gs_s ho, whM_s (hn.symm.trans ho)]
      have h2 : SP (gm_up (gm_up M 0 9 c (M 0 9 c + 1)) 0 10 c (M 0 10 c + 1)) (giM G c) := by
        refine ⟨fun x hx => ?_, fun u hu => ?_⟩
        · obtain ⟨e1, e2, e3, e4, e5⟩ := h.1 x hx
          unfold giM
          by_cases e : x = c
          · subst e
            simp [gm_uA]
            exact ⟨by rw [e1], by rw [e2], e3, e4, e5⟩
          · simp [gm_uA, e]
            exact ⟨e1, e2, e3, e4, e5⟩
        · rw [gm_un1 (by decide), gm_un1 (by decide), giM, gm_un1 (by decide), gm_un1 (by decide), gm_un1 (by decide)]
          exact h.2 u hu
      have h3 : giM G c 0 37 0 = nI b := by rw [giM, gm_us, hb]; exact nI_pred b
      have h4 : ∀ x, x < 10 → ∃ g, g + b ≤ 115 ∧ gm_up (gm_up M 0 9 c (M 0 9 c + 1)) 0 10 c (M 0 10 c + 1) 0 9 x = nI g := by
        intro x hx
        obtain ⟨g, g1, g2⟩ := hg x hx
        rw [gm_un2 (by decide)]
        by_cases e : x = c
        · subst e
          exact ⟨g + 1, by omega, by rw [gm_us, g2]; exact nI_1 g⟩
        · exact ⟨g, by omega, by rw [gm_un3 e]; exact g2⟩
      obtain ⟨i1, i2, i3, i4, i5, i6⟩ := gs_sim b _ _ h2 h3 h4
      refine ⟨i1, i2, fun k f m hk => ?_, fun k f hk => ?_, i5, fun x hx => ?_⟩
      · rw [i3 k f m hk, gm_unA (by omega), gm_unA (by omega)]
      · rw [i4 k f hk, giM, gm_unA (by omega), gm_unA (by omega), gm_unA (by omega)]
      · rw [i6 x (by rw [gm_un1 (by decide), gm_un1 (by decide)]; exact hx), gm_un2 (by decide)]
        have hxc : x ≠ c := fun e => hx (by rw [e]; exact (ntg_nW ho).1)
        rw [gm_un3 hxc]
def GB (M : gm_M) : Prop := ∀ c, c < 10 → ∃ g, g ≤ 115 ∧ M 0 9 c = nI g
theorem sim_map {M G : gm_M} (h : RR M G) : ∃ b, b ≤ 60 ∧ mmL M 5 = nI b ∧ mpA G 0 37 0 = nI b ∧ RR (mmF M b) (whM b (mpA G)) ∧ GB (mmF M b) ∧ mmF M b 2 11 0 = M 2 11 0 := by
  obtain ⟨g, hsum, hg⟩ := gv_eq h
  have hst : ∀ u, u < 5 → M 1 1 u = G 2 u 0 := fun u hu => (h.1 u hu).1
  have hwk := wK_le M 5
  have hL := mmL_v M g (fun c hc => (hg c hc).1) hsum 5 (Nat.le_refl 5)
  obtain ⟨p1, p2⟩ := mp1_v (gm_up G 0 37 0 60) 5 (Nat.le_refl 5)
  have hp1 : ∀ k f, ¬ (k = 0 ∧ f = 37) → iter mp1 5 (gm_up G 0 37 0 60) k f 0 = G k f 0 := fun k f hk => by rw [p1 k f 0 (by omega), gm_unA (by omega)]
  have hp2 := p2 M (fun u hu => by rw [gm_un1 (by decide)]; exact hst u hu) gm_us
  have hgv : ∀ c, c < 10 → gvM (iter mp1 5 (gm_up G 0 37 0 60)) c = nI (g c) := fun c hc => by
    rw [← (hg c hc).2]
    unfold gvM
    rw [hp1 2 _ (by omega), hp1 20 _ (by omega), hp1 21 _ (by omega), hp1 24 _ (by omega)]
  have h37 := mp2_37 _ g (60 - wK M 5) hgv hp2 (by rw [gK_10]; omega) 10 (Nat.le_refl 10)
  have e10 : gK g (2 * 5) = gK g 10 := rfl
  rw [e10, gK_10] at hL
  rw [gK_10] at h37
  have hA : ∀ k f, ¬ (k = 25 ∨ k = 26 ∨ (k = 0 ∧ f = 37)) → mpA G k f 0 = G k f 0 := fun k f hk => by
    unfold mpA
    rw [mp2_ne _ 10 k f (by omega) (by omega), hp1 k f (by omega)]
  have hA25 : ∀ c, c < 10 → mpA G 25 c 0 = nI (g c) ∧ mpA G 26 c 0 = 0 := fun c hc => by
    unfold mpA
    obtain ⟨q1, q2⟩ := mp2_25 (iter mp1 5 (gm_up G 0 37 0 60)) 10 c hc
    exact ⟨q1.trans (hgv c hc), q2⟩
  refine ⟨60 - wK M 5 - qs g, by omega, hL, h37, ?_⟩
  have hB : ∀ k f m, ¬ (k = 0 ∧ (f = 9 ∨ f = 10)) → iter mmU 5 M k f m = M k f m := fun k f m hk => mmS_ne M 5 k f m (by omega)
  have hB9 : ∀ c, c < 10 → iter mmU 5 M 0 9 c = nI (g c) := fun c hc => by rw [mmS_9 M 5 c (by omega)]; exact (hg c hc).1
  have hSP : SP (iter mmU 5 M) (mpA G) := by
    refine ⟨fun c hc => ?_, fun u hu => ?_⟩
    · obtain ⟨r1, r2, r3, r4, r5, r6, r7, r8, r9⟩ := h.2.1 c hc
      rw [hB9 c hc, mmS_10 M 5 c (by omega), (hA25 c hc).1, (hA25 c hc).2, hB 0 6 c (by omega), hB 0 8 c (by omega), hB 0 7 c (by omega), hA 22 c (by omega), hA 24 c (by omega), hA 23 c (by omega), hA 2 _ (by omega)]
      exact ⟨rfl, rfl, r4, r5, r7⟩
    · rw [hB 1 1 u (by omega), hA 2 u (by omega)]; exact hst u hu
  obtain ⟨i1, i2, i3, i4, i5, i6⟩ := gs_sim (60 - wK M 5 - qs g) _ _ hSP h37 (fun c hc => ⟨g c, by have := qs_ge g c hc; omega, hB9 c hc⟩)
  unfold mmF
  generalize gsF (60 - wK M 5 - qs g) (iter mmU 5 M) = PP at i1 i2 i3 i5 i6 ⊢
  generalize whM (60 - wK M 5 - qs g) (mpA G) = G' at i1 i2 i4 ⊢
  have hM : ∀ k f m, ¬ (k = 0 ∧ (f = 9 ∨ f = 10)) → ¬ (k = 2 ∧ f = 14 ∧ m = 0) → gm_up PP.1 2 14 0 PP.2 k f m = M k f m := fun k f m h1 h2 => by rw [gm_unA h2, i3 k f m h1, hB k f m h1]
  have hG : ∀ k f, ¬ (k = 25 ∨ k = 26 ∨ (k = 0 ∧ f = 37)) → G' k f 0 = G k f 0 := fun k f hk => by rw [i4 k f hk, hA k f hk]
  refine ⟨?_, fun c hc => by rw [gm_un1 (by decide)]; exact i5 c hc, hM 2 11 0 (by omega) (by omega)⟩
  obtain ⟨h1, h2, h3, h4, d, a, q, num, h5⟩ := h
  refine ⟨fun u hu => (h1 u hu).congr (fun f => hM 1 f u (by omega) (by omega)) (fun k hk hk2 => hG k u (by omega)) (hG 0 7 (by omega)), fun c hc => ?_, h3.congr (fun c hc => ⟨hM 0 4 c (by omega) (by omega), hM 0 5 c (by omega) (by omega)⟩), ?_, d, a, q, num, h5.congr (fun c hc => ⟨hM 0 2 c (by omega) (by omega), hM 0 3 c (by omega) (by omega)⟩) (fun k c => ⟨hM 10 k c (by omega) (by omega), hM 11 k c (by omega) (by omega)⟩) ⟨hM 2 10 0 (by omega) (by omega), hM 2 11 0 (by omega) (by omega)⟩ (fun k => hM 5 k 0 (by omega) (by omega)) (fun k i hk => hG k i (by omega)) ⟨hG 0 28 (by omega), hG 0 31 (by omega)⟩⟩
  · obtain ⟨r1, r2, r3, r4, r5, r6, r7, r8, r9⟩ := h2 c hc
    have s9 : gm_up PP.1 2 14 0 PP.2 0 9 c = G' 25 c 0 := by rw [gm_un1 (by decide)]; exact (i1.1 c hc).1
    have z9 : G 2 (c / 2) 0 = 0 → gm_up PP.1 2 14 0 PP.2 0 9 c = 0 := fun z => by
      have hn : ¬ M 1 1 (c / 2) = 2 := by rw [hst (c / 2) (by omega), z]; decide
      rw [gm_un1 (by decide), i6 c (by rw [hB 1 1 _ (by omega)]; exact hn), mmS_9 M 5 c (by omega)]
      exact if_neg hn
    rw [RC, RC0, s9, hM 0 2 c (by omega) (by omega), hM 0 3 c (by omega) (by omega), hM 0 4 c (by omega) (by omega), hM 0 5 c (by omega) (by omega), hM 0 6 c (by omega) (by omega), hM 0 7 c (by omega) (by omega), hM 0 8 c (by omega) (by omega), hG 27 c (by omega), hG 20 c (by omega), hG 21 c (by omega), hG 22 c (by omega), hG 23 c (by omega), hG 24 c (by omega), hG 2 _ (by omega)]
    exact ⟨r1, r2, r3, r4, r5, rfl, r7, fun z => by
      obtain ⟨t2, t3, t4, t5, t6, t7, t8, t9⟩ := r8 z
      exact ⟨t2, t3, t4, t5, t6, t7, t8, by rw [← s9]; exact z9 z⟩, r9⟩
  · simp only [RS] at h4 ⊢
    obtain ⟨c1, c2, c3, c4, c5, c6, c7, c8, c9, c10, c11⟩ := h4
    rw [hM 2 6 0 (by omega) (by omega), hM 2 7 0 (by omega) (by omega), hM 2 8 0 (by omega) (by omega), hM 2 9 0 (by omega) (by omega), hM 2 12 0 (by omega) (by omega), hM 2 13 0 (by omega) (by omega), hM 2 15 0 (by omega) (by omega), hM 4 0 0 (by omega) (by omega), hM 4 1 0 (by omega) (by omega), gm_us, hG 0 7 (by omega), hG 0 9 (by omega), hG 0 10 (by omega), hG 0 11 (by omega), hG 0 35 (by omega), hG 0 36 (by omega), hG 0 38 (by omega), hG 9 0 (by omega), hG 9 1 (by omega)]
    exact ⟨c1, c2, c3, c4, c5, c6, c7, i2, c9, c10, c11⟩
