/-! ===== plug, contract, send ===== -/
theorem fa_uD {M G : gm_M} (h : ∀ u, u < 5 → M 1 1 u = G 2 u 0) : (faD M 5 0 = 5 ↔ uD G 5 < 0) ∧ (¬ faD M 5 0 = 5 → uD G 5 = nI (faD M 5 0) ∧ faD M 5 0 < 5 ∧ G 2 (faD M 5 0) 0 = 0) := by
  have s0 := h 0 (by decide)
  have s1 := h 1 (by decide)
  have s2 := h 2 (by decide)
  have s3 := h 3 (by decide)
  have s4 := h 4 (by decide)
  have eU : uD G 5 = if G 2 0 0 = 0 then nI 0 else if G 2 1 0 = 0 then nI 1 else if G 2 2 0 = 0 then nI 2 else if G 2 3 0 = 0 then nI 3 else if G 2 4 0 = 0 then nI 4 else -1 := rfl
  have eF : faD M 5 0 = if M 1 1 0 = 0 then 0 else if M 1 1 1 = 0 then 1 else if M 1 1 2 = 0 then 2 else if M 1 1 3 = 0 then 3 else if M 1 1 4 = 0 then 4 else 5 := rfl
  rw [eU, eF, s0, s1, s2, s3, s4]
  by_cases c0 : G 2 0 0 = 0
  · simp only [if_pos c0]; exact ⟨by decide, fun _ => ⟨trivial, by decide, c0⟩⟩
  · by_cases c1 : G 2 1 0 = 0
    · simp only [if_neg c0, if_pos c1]; exact ⟨by decide, fun _ => ⟨trivial, by decide, c1⟩⟩
    · by_cases c2 : G 2 2 0 = 0
      · simp only [if_neg c0, if_neg c1, if_pos c2]; exact ⟨by decide, fun _ => ⟨trivial, by decide, c2⟩⟩
      · by_cases c3 : G 2 3 0 = 0
        · simp only [if_neg c0, if_neg c1, if_neg c2, if_pos c3]; exact ⟨by decide, fun _ => ⟨trivial, by decide, c3⟩⟩
        · by_cases c4 : G 2 4 0 = 0
          · simp only [if_neg c0, if_neg c1, if_neg c2, if_neg c3, if_pos c4]; exact ⟨by decide, fun _ => ⟨trivial, by decide, c4⟩⟩
          · simp only [if_neg c0, if_neg c1, if_neg c2, if_neg c3, if_neg c4]; exact ⟨by decide, fun z => absurd trivial z⟩
theorem sim_plug {M G : gm_M} (h : RR M G) (a y : Int32) : cod1 (thF (a < 0 ∨ 9999 < a ∨ (∃ k, k < 5 ∧ (¬ M 1 1 k = 0 ∧ M 1 2 k = a)) ∨ ¬ (¬ y < 100 ∧ ¬ 600 < y)) "java/lang/IllegalArgumentException" (thF (faD M 5 0 = 5) "java/lang/IllegalStateException" none)) = tM (pB G a y 5 ∨ uD G 5 < 0) (gm_up G 0 0 0 (cdF (pB G a y 5) (uD G 5 < 0))) (plM G (uN (uD G 5)) a y) 0 0 0
    ∧ (thF (a < 0 ∨ 9999 < a ∨ (∃ k, k < 5 ∧ (¬ M 1 1 k = 0 ∧ M 1 2 k = a)) ∨ ¬ (¬ y < 100 ∧ ¬ 600 < y)) "java/lang/IllegalArgumentException" (thF (faD M 5 0 = 5) "java/lang/IllegalStateException" none) = none → nI (faD M 5 0) = sdR (pB G a y 5 ∨ uD G 5 < 0) (uD G 5))
    ∧ RR (tO (thF (a < 0 ∨ 9999 < a ∨ (∃ k, k < 5 ∧ (¬ M 1 1 k = 0 ∧ M 1 2 k = a)) ∨ ¬ (¬ y < 100 ∧ ¬ 600 < y)) "java/lang/IllegalArgumentException" (thF (faD M 5 0 = 5) "java/lang/IllegalStateException" none)) (gm_up (gm_up (gm_up M 1 1 (faD M 5 0) 1) 1 2 (faD M 5 0) a) 1 3 (faD M 5 0) y) M) (tM (pB G a y 5 ∨ uD G 5 < 0) (gm_up G 0 0 0 (cdF (pB G a y 5) (uD G 5 < 0))) (plM G (uN (uD G 5)) a y)) := by
  rw [cod_cd]
  obtain ⟨hA, hB⟩ := fa_uD (fun u hu => (h.1 u hu).1)
  have hP : (a < 0 ∨ 9999 < a ∨ (∃ k, k < 5 ∧ (¬ M 1 1 k = 0 ∧ M 1 2 k = a)) ∨ ¬ (¬ y < 100 ∧ ¬ 600 < y)) ↔ pB G a y 5 := by
    have hE : (∃ k, k < 5 ∧ (¬ M 1 1 k = 0 ∧ M 1 2 k = a)) ↔ ∃ k, 5 - 5 ≤ k ∧ k < 5 ∧ ¬ G 2 k 0 = 0 ∧ G 3 k 0 = a := by
      constructor
      · rintro ⟨k, hk, h1, h2⟩
        obtain ⟨a1, a2, a3, a4⟩ := h.1 k hk
        rw [a1] at h1
        exact ⟨k, by omega, hk, h1, by rw [← (a4 h1).1]; exact h2⟩
      · rintro ⟨k, -, hk, h1, h2⟩
        obtain ⟨a1, a2, a3, a4⟩ := h.1 k hk
        exact ⟨k, hk, by rw [a1]; exact h1, by rw [(a4 h1).1]; exact h2⟩
    simp only [pB, pB0]
    rw [hE, i_le (b := (600 : Int32))]
    grind
  rw [cdF_congr hP (fun _ => hA)]
  by_cases hb : pB G a y 5 ∨ uD G 5 < 0
  · rw [tM_t hb, gm_us]
    have e : tO (thF (a < 0 ∨ 9999 < a ∨ (∃ k, k < 5 ∧ (¬ M 1 1 k = 0 ∧ M 1 2 k = a)) ∨ ¬ (¬ y < 100 ∧ ¬ 600 < y)) "java/lang/IllegalArgumentException" (thF (faD M 5 0 = 5) "java/lang/IllegalStateException" none)) (gm_up (gm_up (gm_up M 1 1 (faD M 5 0) 1) 1 2 (faD M 5 0) a) 1 3 (faD M 5 0) y) M = M := by
      by_cases p : pB G a y 5
      · exact tO_t (hP.mpr p)
      · rw [thF_f (fun z => p (hP.mp z))]
        exact tO_t (hA.mpr (hb.resolve_left p))
    rw [e]
    refine ⟨rfl, fun hn => ?_, h.thrown _⟩
    by_cases p : pB G a y 5
    · rw [thF_t (hP.mpr p)] at hn; cases hn
    · rw [thF_f (fun z => p (hP.mp z))] at hn
      exact absurd (hA.mpr (hb.resolve_left p)) (thF_none hn)
  · have hb1 : ¬ pB G a y 5 := fun z => hb (Or.inl z)
    have hb2 : ¬ faD M 5 0 = 5 := fun z => hb (Or.inr (hA.mp z))
    rw [tM_f hb, cdF_0 hb1 (fun z => hb (Or.inr z)), tO_f ((thF_f (fun z => hb1 (hP.mp z))).trans (thF_f hb2)), sdR_f hb]
    obtain ⟨hu, hn5, hs⟩ := hB hb2
    rw [hu, show uN (nI (faD M 5 0)) = faD M 5 0 from nI_clamp (by omega)]
    refine ⟨?_, fun _ => rfl, ?_⟩
    · show 0 = em2 _ (faD M 5 0) 0 0 0
      rw [em2_ne (by omega)]
      simp [gm_uA]
    · generalize faD M 5 0 = n at hn5 hs hu ⊢
      have hy1 : ¬ y < 100 := fun z => hb1 (Or.inl (Or.inr (Or.inr (Or.inl z))))
      have hy2 : y ≤ 600 := Classical.byContradiction (fun z => hb1 (Or.inl (Or.inr (Or.inr (Or.inr z)))))
      obtain ⟨v', hv1, hv2, hv3⟩ : ∃ v' : Nat, 100 ≤ v' ∧ v' ≤ 600 ∧ y = nI v' := by
        obtain ⟨j, hj, e⟩ := nI_of (x := y) (fun z => hy1 (by rw [Int32.lt_iff_toInt_lt] at z ⊢; simp at z ⊢; omega))
        rw [e] at hy1 hy2
        refine ⟨j, ?_, ?_, e⟩
        · exact Nat.le_of_not_lt (fun z => hy1 ((nI_ltI hj (b := 100) (by decide)).mpr z))
        · exact (nI_leI hj (b := 600) (by decide)).mp hy2
      obtain ⟨h1, h2, h3, h4, d, a', q, num, h5⟩ := h
      obtain ⟨a1, a2, a3, a4⟩ := h1 n hn5
      obtain ⟨z2, z3, z4, z5, z6, z7, z8, z9, z10, z11, z12, z13, z14⟩ := a3 hs
      have hM : ∀ k f m, ¬ (k = 1 ∧ m = n) → gm_up (gm_up (gm_up M 1 1 n 1) 1 2 n a) 1 3 n y k f m = M k f m := fun k f m hk => by rw [gm_unA (by omega), gm_unA (by omega), gm_unA (by omega)]
      have hG : ∀ k f, ¬ (f = n ∧ 2 ≤ k ∧ k ≤ 19 ∧ k ≠ 9) → ¬ (k = 0 ∧ f = 0) → ¬ (20 ≤ k ∧ k ≤ 27 ∧ k ≠ 26 ∧ (f = 2 * n ∨ f = 2 * n + 1)) → plM G n a y k f 0 = G k f 0 := fun k f hk hk0 hk2 => by
        show em2 _ n k f 0 = _
        rw [em2_ne hk2]
        repeat (rw [gm_unA (by omega)])
      refine ⟨fun u hu => ?_, fun c hc => ?_, h3.congr (fun c hc => ⟨hM 0 4 c (by omega), hM 0 5 c (by omega)⟩), h4.congr (fun f _ _ _ _ => hM 2 f 0 (by omega)) (fun f hf => hG 0 f (by omega) (by omega) (by omega)) (fun f => hM 4 f 0 (by omega)) (fun f => hG 9 f (by omega) (by omega) (by omega)), d, a', q, num, ?_⟩
      · by_cases e : u = n
        · subst e
          have hv : ∀ k, ¬ (20 ≤ k ∧ k ≤ 27) → plM G u a y k u 0 = gm_up (gm_up (gm_up (gm_up (gm_up (gm_up (gm_up (gm_up (gm_up (gm_up (gm_up (gm_up (gm_up G 0 0 0 0) 2 u 0 1) 3 u 0 a) 4 u 0 y) 5 u 0 0) 6 u 0 0) 7 u 0 0) 13 u 0 0) 14 u 0 (-1)) 15 u 0 0) 16 u 0 0) 18 u 0 0) 19 u 0 0 k u 0 := fun k hk => em2_ne (by omega)
          simp only [RU, RU1, RK, RE, erM]
          rw [hv 2 (by decide), hv 3 (by decide), hv 4 (by decide), hv 5 (by decide), hv 6 (by decide), hv 7 (by decide), hv 13 (by decide), hv 14 (by decide), hv 15 (by decide), hv 16 (by decide), hv 17 (by decide), hv 18 (by decide), hv 19 (by decide)]
          simp [gm_uA, z4, z5, z6, z7, z9, z10, z12, z13, z14]
          exact ⟨v', hv3, hv1, hv2, 0, by omega⟩
        · exact (h1 u hu).congr (fun f => hM 1 f u (by omega)) (fun k hk hk2 => hG k u (by omega) (by omega) (by omega)) (hG 0 7 (by omega) (by omega) (by omega))
      · by_cases e : c = 2 * n ∨ c = 2 * n + 1
        · obtain ⟨g1, g2, g3, g4, g5, g6, g7⟩ := em2_v (G := gm_up (gm_up (gm_up (gm_up (gm_up (gm_up (gm_up (gm_up (gm_up (gm_up (gm_up (gm_up (gm_up G 0 0 0 0) 2 n 0 1) 3 n 0 a) 4 n 0 y) 5 n 0 0) 6 n 0 0) 7 n 0 0) 13 n 0 0) 14 n 0 (-1)) 15 n 0 0) 16 n 0 0) 18 n 0 0) 19 n 0 0) e
          have hcn : c / 2 = n := by omega
          obtain ⟨y2, y3, y4, y5, y6, y7, y8, y9⟩ := (h2 c hc).2.2.2.2.2.2.2.1 (by rw [hcn]; exact hs)
          have hs2 : plM G n a y 2 n 0 = 1 := by
            show em2 _ n 2 n 0 = _
            rw [em2_ne (by omega)]
            simp [gm_uA]
          refine ⟨?_, ?_, ?_, ?_, ?_, ?_, fun _ => ?_, fun z => ?_, 0, by omega, ?_⟩
          · rw [hM 0 2 c (by omega), y2]; exact g7.symm
          · rw [hM 0 4 c (by omega), y4]; exact g1.symm
          · rw [hM 0 5 c (by omega), y5]; exact g2.symm
          · rw [hM 0 6 c (by omega), y6]; exact g3.symm
          · rw [hM 0 8 c (by omega), y8]; exact g5.symm
          · rw [hM 0 9 c (by omega), y9]; exact g6.symm
          · rw [hM 0 7 c (by omega), y7]; exact g4.symm
          · rw [hcn, hs2] at z; exact absurd z (by decide)
          · rw [hM 0 8 c (by omega), y8]; rfl
        · exact (h2 c hc).congr (fun f _ _ => hM 0 f c (by omega)) (fun k hk _ _ => hG k c (by omega) (by omega) (by omega)) (by rw [hG 2 (c / 2) (by omega) (by omega) (by omega)])
      · obtain ⟨b1, b2, b3, b4, b5, b6, b7, b8, b9, b10, b11, b12⟩ := h5
        refine ⟨fun c hc => ?_, fun c k hc hk => (b2 c k hc hk).congr (hM 10 k c (by omega)) (hM 11 k c (by omega)) (hM 0 3 c (by omega)) (hG 28 _ (by omega) (by omega) (by omega)) (hG 30 _ (by omega) (by omega) (by omega)) (hG 31 _ (by omega) (by omega) (by omega)) (Nat.le_refl d), fun c hc hq => by rw [hM 0 3 c (by omega)]; exact b3 c hc hq, b4, fun m hm => by rw [hG 31 m (by omega) (by omega) (by omega)]; exact b5 m hm, by rw [hM 2 10 0 (by omega)]; exact b6, by rw [hG 0 28 (by omega) (by omega) (by omega)]; exact b7, b8, by rw [hM 2 11 0 (by omega)]; exact b9, by rw [hG 0 31 (by omega) (by omega) (by omega)]; exact b10, b11, b12.congr (fun k => hM 5 k 0 (by omega)) (fun k i hk => hG k i (by omega) (by omega) (by omega))⟩
        rw [hM 0 2 c (by omega)]
        refine ⟨(b1 c hc).1, (b1 c hc).2.1, ?_⟩
        by_cases e : c = 2 * n ∨ c = 2 * n + 1
        · have hcn : c / 2 = n := by omega
          have y2 := ((h2 c hc).2.2.2.2.2.2.2.1 (by rw [hcn]; exact hs)).1
          have hq := (b1 c hc).1
          rw [y2] at hq
          exact (em2_v e).2.2.2.2.2.2.trans hq
        · rw [hG 27 c (by omega) (by omega) (by omega)]; exact (b1 c hc).2.2
theorem sim_send {M G : gm_M} (h : RR M G) (u c b : Int32) {d a : Nat} {q : Nat → Nat} {num : Nat → Nat → Nat} (hD : RD M G d a q num) : cod1 (thF (aW M u ∨ bC c ∨ b < 1 ∨ ¬ b ≤ 20) "java/lang/IllegalArgumentException" (thF (M 0 2 (2 * uN u + uN c) = 8 ∨ M 2 10 0 = 100) "java/lang/IllegalStateException" none)) = tM (((wM G u ∨ bC c) ∨ b < 1 ∨ ¬ b ≤ 20) ∨ (G 27 (2 * uN u + uN c) 0 = 8 ∨ G 0 28 0 = 100)) (gm_up G 0 0 0 (cdF ((wM G u ∨ bC c) ∨ b < 1 ∨ ¬ b ≤ 20) (G 27 (2 * uN u + uN c) 0 = 8 ∨ G 0 28 0 = 100))) (sdM G (2 * uN u + uN c) (q (2 * uN u + uN c)) d b) 0 0 0
    ∧ (thF (aW M u ∨ bC c ∨ b < 1 ∨ ¬ b ≤ 20) "java/lang/IllegalArgumentException" (thF (M 0 2 (2 * uN u + uN c) = 8 ∨ M 2 10 0 = 100) "java/lang/IllegalStateException" none) = none → M 2 10 0 = sdR (((wM G u ∨ bC c) ∨ b < 1 ∨ ¬ b ≤ 20) ∨ (G 27 (2 * uN u + uN c) 0 = 8 ∨ G 0 28 0 = 100)) (G 0 28 0 + 1 - 1))
    ∧ RR (tO (thF (aW M u ∨ bC c ∨ b < 1 ∨ ¬ b ≤ 20) "java/lang/IllegalArgumentException" (thF (M 0 2 (2 * uN u + uN c) = 8 ∨ M 2 10 0 = 100) "java/lang/IllegalStateException" none)) (sdF M (2 * uN u + uN c) (q (2 * uN u + uN c)) b) M) (tM (((wM G u ∨ bC c) ∨ b < 1 ∨ ¬ b ≤ 20) ∨ (G 27 (2 * uN u + uN c) 0 = 8 ∨ G 0 28 0 = 100)) (gm_up G 0 0 0 (cdF ((wM G u ∨ bC c) ∨ b < 1 ∨ ¬ b ≤ 20) (G 27 (2 * uN u + uN c) 0 = 8 ∨ G 0 28 0 = 100))) (sdM G (2 * uN u + uN c) (q (2 * uN u + uN c)) d b)) := by
  rw [cod_cd]
  have hP : (aW M u ∨ bC c ∨ b < 1 ∨ ¬ b ≤ 20) ↔ ((wM G u ∨ bC c) ∨ b < 1 ∨ ¬ b ≤ 20) := by rw [← h.away u]; exact or_assoc.symm
  have hC0 : ¬ (aW M u ∨ bC c ∨ b < 1 ∨ ¬ b ≤ 20) → 2 * uN u + uN c < 10 ∧ (2 * uN u + uN c) / 2 = uN u := fun hb => by
    have h1 := (bU_ix (u := u) (fun z => hb (Or.inl (Or.inl z)))).2
    have h2 := (bC_ix (u := c) (fun z => hb (Or.inr (Or.inl z)))).2
    omega
  have hD' := hD
  obtain ⟨b1, b2, b3, b4, b5, b6, b7, b8, b9, b10, b11, b12⟩ := hD'
  have hQ : ¬ (aW M u ∨ bC c ∨ b < 1 ∨ ¬ b ≤ 20) → ((M 0 2 (2 * uN u + uN c) = 8 ∨ M 2 10 0 = 100) ↔ (G 27 (2 * uN u + uN c) 0 = 8 ∨ G 0 28 0 = 100)) := fun hb => by
    obtain ⟨e1, e2, e3⟩ := b1 _ (hC0 hb).1
    rw [e1, e3, b6, b7]
  rw [cdF_congr hP hQ]
  by_cases hb : ((wM G u ∨ bC c) ∨ b < 1 ∨ ¬ b ≤ 20) ∨ (G 27 (2 * uN u + uN c) 0 = 8 ∨ G 0 28 0 = 100)
  · rw [tM_t hb, gm_us]
    have e : tO (thF (aW M u ∨ bC c ∨ b < 1 ∨ ¬ b ≤ 20) "java/lang/IllegalArgumentException" (thF (M 0 2 (2 * uN u + uN c) = 8 ∨ M 2 10 0 = 100) "java/lang/IllegalStateException" none)) (sdF M (2 * uN u + uN c) (q (2 * uN u + uN c)) b) M = M := by
      by_cases p : aW M u ∨ bC c ∨ b < 1 ∨ ¬ b ≤ 20
      · exact tO_t p
      · rw [thF_f p]
        exact tO_t ((hQ p).mpr (hb.resolve_left (fun z => p (hP.mpr z))))
    rw [e]
    refine ⟨rfl, fun hn => ?_, h.thrown _⟩
    by_cases p : aW M u ∨ bC c ∨ b < 1 ∨ ¬ b ≤ 20
    · rw [thF_t p] at hn; cases hn
    · rw [thF_f p] at hn
      exact absurd ((hQ p).mpr (hb.resolve_left (fun z => p (hP.mpr z)))) (thF_none hn)
  · have hb1 : ¬ (aW M u ∨ bC c ∨ b < 1 ∨ ¬ b ≤ 20) := fun z => hb (Or.inl (hP.mp z))
    have hb2 : ¬ (M 0 2 (2 * uN u + uN c) = 8 ∨ M 2 10 0 = 100) := fun z => hb (Or.inr ((hQ hb1).mp z))
    rw [tM_f hb, cdF_0 (fun z => hb1 (hP.mpr z)) (fun z => hb2 ((hQ hb1).mpr z)), tO_f ((thF_f hb1).trans (thF_f hb2)), sdR_f hb]
    obtain ⟨hC, hCn⟩ := hC0 hb1
    have hst : ¬ G 2 (uN u) 0 = 0 := (h.here (fun z => hb1 (Or.inl ((h.away u).mpr z)))).2.2.1
    generalize 2 * uN u + uN c = C at hC hCn hb2 ⊢
    rw [← hCn] at hst
    have hq8 : q C < 8 := by
      have := (b1 C hC).2.1
      have h2 : q C ≠ 8 := fun e => hb2 (Or.inl (by rw [(b1 C hC).1, e]; decide))
      omega
    have hd9 : d < 100 := by
      have h2 : d ≠ 100 := fun e => hb2 (Or.inr (by rw [b6, e]; decide))
      omega
    have hl1 : ¬ b < 1 := fun z => hb1 (Or.inr (Or.inr (Or.inl z)))
    have hl2 : b ≤ 20 := Classical.byContradiction (fun z => hb1 (Or.inr (Or.inr (Or.inr z))))
    obtain ⟨l, hl3, hl4, hl5⟩ : ∃ l : Nat, 1 ≤ l ∧ l ≤ 20 ∧ b = nI l := by
      obtain ⟨j, hj, e⟩ := nI_of (x := b) (fun z => hl1 (by rw [Int32.lt_iff_toInt_lt] at z ⊢; simp at z ⊢; omega))
      rw [e] at hl1 hl2
      refine ⟨j, ?_, ?_, e⟩
      · exact Nat.le_of_not_lt (fun z => hl1 ((nI_ltI hj (b := 1) (by decide)).mpr z))
      · exact (nI_leI hj (b := 20) (by decide)).mp hl2
    have hM : ∀ k f m, ¬ (k = 10 ∧ f = q C ∧ m = C) → ¬ (k = 11 ∧ f = q C ∧ m = C) → ¬ (k = 0 ∧ f = 2 ∧ m = C) → ¬ (k = 2 ∧ f = 10 ∧ m = 0) → sdF M C (q C) b k f m = M k f m := fun k f m k1 k2 k3 k4 => by
      rw [sdF, gm_unA k4, cApp, gm_unA k3, gm_unA k2, gm_unA k1]
    have hM1 : sdF M C (q C) b 10 (q C) C = nI d := by rw [sdF, gm_un1 (by decide), cApp, gm_un1 (by decide), gm_un1 (by decide), gm_us, b6]
    have hM2 : sdF M C (q C) b 11 (q C) C = b := by rw [sdF, gm_un1 (by decide), cApp, gm_un1 (by decide), gm_us]
    have hM3 : sdF M C (q C) b 0 2 C = nI (q C + 1) := by rw [sdF, gm_un1 (by decide), cApp, gm_us, (b1 C hC).1]; exact nI_1 _
    have hM4 : sdF M C (q C) b 2 10 0 = nI (d + 1) := by rw [sdF, gm_us, b6]; exact nI_1 _
    have hG : ∀ k f, ¬ (k = 28 ∧ f = 8 * C + q C) → ¬ (k = 27 ∧ f = C) → ¬ (k = 30 ∧ f = d) → ¬ (k = 0 ∧ (f = 0 ∨ f = 28)) → sdM G C (q C) d b k f 0 = G k f 0 := fun k f k1 k2 k3 k4 => by
      rw [sdM, gm_unA (by omega), gm_unA (by omega), gm_unA (by omega), gm_unA (by omega), gm_unA (by omega)]
    have hG1 : sdM G C (q C) d b 28 (8 * C + q C) 0 = nI d := by rw [sdM, gm_un1 (by decide), gm_un1 (by decide), gm_un1 (by decide), gm_us, b7]
    have hG2 : sdM G C (q C) d b 27 C 0 = nI (q C + 1) := by rw [sdM, gm_un1 (by decide), gm_un1 (by decide), gm_us, (b1 C hC).2.2]; exact nI_1 _
    have hG3 : sdM G C (q C) d b 30 d 0 = b := by rw [sdM, gm_un1 (by decide), gm_us]
    have hG4 : sdM G C (q C) d b 0 28 0 = nI (d + 1) := by rw [sdM, gm_us, b7]; exact nI_1 _
    refine ⟨by rw [sdM, gm_un2 (by decide), gm_un1 (by decide), gm_un1 (by decide), gm_un1 (by decide), gm_us], fun _ => by rw [b6, b7, nI_1, nI_pred], ?_⟩
    obtain ⟨h1, h2, h3, h4, -⟩ := h
    refine ⟨fun v hv => (h1 v hv).congr (fun f => hM 1 f v (by omega) (by omega) (by omega) (by omega)) (fun k hk hk2 => hG k v (by omega) (by omega) (by omega) (by omega)) (hG 0 7 (by omega) (by omega) (by omega) (by omega)), fun x hx => ?_, h3.congr (fun x hx => ⟨hM 0 4 x (by omega) (by omega) (by omega) (by omega), hM 0 5 x (by omega) (by omega) (by omega) (by omega)⟩), h4.congr (fun f _ _ h10 h11 => hM 2 f 0 (by omega) (by omega) (by omega) (by omega)) (fun f hf => hG 0 f (by omega) (by omega) (by omega) (by omega)) (fun f => hM 4 f 0 (by omega) (by omega) (by omega) (by omega)) (fun f => hG 9 f (by omega) (by omega) (by omega) (by omega)), d + 1, a, fun x => if x = C then q C + 1 else q x, fun x k => if x = C ∧ k = q C then d else num x k, ?_⟩
    · by_cases e : x = C
      · subst e
        obtain ⟨r1, r2, r3, r4, r5, r6, r7, r8, r9⟩ := h2 x hx
        rw [RC, hM3, hG2, hM 0 4 x (by omega) (by omega) (by omega) (by omega), hM 0 5 x (by omega) (by omega) (by omega) (by omega), hM 0 6 x (by omega) (by omega) (by omega) (by omega), hM 0 7 x (by omega) (by omega) (by omega) (by omega), hM 0 8 x (by omega) (by omega) (by omega) (by omega), hM 0 9 x (by omega) (by omega) (by omega) (by omega), hG 20 x (by omega) (by omega) (by omega) (by omega), hG 21 x (by omega) (by omega) (by omega) (by omega), hG 22 x (by omega) (by omega) (by omega) (by omega), hG 23 x (by omega) (by omega) (by omega) (by omega), hG 24 x (by omega) (by omega) (by omega) (by omega), hG 25 x (by omega) (by omega) (by omega) (by omega), hG 2 (x / 2) (by omega) (by omega) (by omega) (by omega)]
        exact ⟨rfl, r2, r3, r4, r5, r6, r7, fun z => absurd z hst, r9⟩
      · exact (h2 x hx).congr (fun f _ _ => hM 0 f x (by omega) (by omega) (by omega) (by omega)) (fun k _ _ _ => hG k x (by omega) (by omega) (by omega) (by omega)) (by rw [hG 2 (x / 2) (by omega) (by omega) (by omega) (by omega)])
    · refine ⟨fun x hx => ?_, fun x k hx hk => ?_, fun x hx hq => ?_, fun x k x' k' hx hk hx' hk' he => ?_, fun m hm => ?_, hM4, hG4, by omega, ?_, ?_, ?_, ?_⟩
      · by_cases e : x = C
        · subst e
          simp only [if_pos]
          exact ⟨hM3, by omega, hG2⟩
        · simp only [if_neg e]
          rw [hM 0 2 x (by omega) (by omega) (by omega) (by omega), hG 27 x (by omega) (by omega) (by omega) (by omega)]
          exact b1 x hx
      · dsimp only at hk ⊢
        by_cases e : x = C ∧ k = q C
        · obtain ⟨rfl, rfl⟩ := e
          rw [if_pos ⟨rfl, rfl⟩]
          refine ⟨hM1, hG1, by omega, ⟨l, hl3, hl4, by rw [hM2]; exact hl5, by rw [hG3]; exact hl5⟩, fun z => ?_, fun z => ?_⟩
          · rw [hM 0 3 x (by omega) (by omega) (by omega) (by omega), hG 31 d (by omega) (by omega) (by omega) (by omega), b3 x hx z, b5 d (Nat.le_refl d)]
          · rw [hG 31 d (by omega) (by omega) (by omega) (by omega), b5 d (Nat.le_refl d)]
        · rw [if_neg e]
          have hk' : k < q x := by
            by_cases ex : x = C
            · rw [if_pos ex] at hk; subst ex; omega
            · rw [if_neg ex] at hk; exact hk
          have hr := b2 x k hx hk'
          have hnd : num x k < d := hr.2.2.1
          have hq8' := (b1 x hx).2.1
          exact hr.congr (hM 10 k x (by omega) (by omega) (by omega) (by omega)) (hM 11 k x (by omega) (by omega) (by omega) (by omega)) (hM 0 3 x (by omega) (by omega) (by omega) (by omega)) (hG 28 _ (by omega) (by omega) (by omega) (by omega)) (hG 30 _ (by omega) (by omega) (by omega) (by omega)) (hG 31 _ (by omega) (by omega) (by omega) (by omega)) (by omega)
      · rw [hM 0 3 x (by omega) (by omega) (by omega) (by omega)]
        dsimp only at hq
        by_cases e : x = C
        · rw [if_pos e] at hq; omega
        · rw [if_neg e] at hq; exact b3 x hx hq
      · dsimp only at hk hk' he
        have p1 : x = C ∧ k = q C ∨ ¬ (x = C ∧ k = q C) ∧ k < q x := by
          by_cases e : x = C
          · rw [if_pos e] at hk; subst e; omega
          · rw [if_neg e] at hk; exact Or.inr ⟨fun z => e z.1, hk⟩
        have p2 : x' = C ∧ k' = q C ∨ ¬ (x' = C ∧ k' = q C) ∧ k' < q x' := by
          by_cases e : x' = C
          · rw [if_pos e] at hk'; subst e; omega
          · rw [if_neg e] at hk'; exact Or.inr ⟨fun z => e z.1, hk'⟩
        rcases p1 with p1 | ⟨n1, p1⟩
        · rcases p2 with p2 | ⟨n2, p2⟩
          · exact ⟨p1.1.trans p2.1.symm, p1.2.trans p2.2.symm⟩
          · rw [if_pos p1, if_neg n2] at he
            have := (b2 x' k' hx' p2).2.2.1
            omega
        · rcases p2 with p2 | ⟨n2, p2⟩
          · rw [if_neg n1, if_pos p2] at he
            have := (b2 x k hx p1).2.2.1
            omega
          · rw [if_neg n1, if_neg n2] at he
            exact b4 x k x' k' hx p1 hx' p2 he
      · rw [hG 31 m (by omega) (by omega) (by omega) (by omega)]; exact b5 m (by omega)
      · rw [hM 2 11 0 (by omega) (by omega) (by omega) (by omega)]; exact b9
      · rw [hG 0 31 (by omega) (by omega) (by omega) (by omega)]; exact b10
      · have := qs_upd q (q C + 1) C hC
        omega
      · exact b12.congr (fun k => hM 5 k 0 (by omega) (by omega) (by omega) (by omega)) (fun k i hk => hG k i (by omega) (by omega) (by omega) (by omega))
