/-! ===== more calls ===== -/
theorem qs_mono {q q' : Nat → Nat} (h : ∀ c, c < 10 → q' c ≤ q c) : qs q' ≤ qs q := by
  have h0 := h 0 (by decide)
  have h1 := h 1 (by decide)
  have h2 := h 2 (by decide)
  have h3 := h 3 (by decide)
  have h4 := h 4 (by decide)
  have h5 := h 5 (by decide)
  have h6 := h 6 (by decide)
  have h7 := h 7 (by decide)
  have h8 := h 8 (by decide)
  have h9 := h 9 (by decide)
  simp only [qs]
  omega
theorem bx_congr {f g : Nat → Int32} : ∀ n, (∀ k, k < n → f k = g k) → bx_sum f n = bx_sum g n
  | 0, _ => rfl
  | n + 1, h => by
    show bx_sum f n + f n = bx_sum g n + g n
    rw [bx_congr n (fun k hk => h k (by omega)), h n (by omega)]
theorem prop1 {A W a b p q : Prop} (h : A ↔ W) : (A ∨ a ∨ b ∨ ¬ (¬ p ∧ ¬ q)) ↔ ((W ∨ a ∨ ¬ ¬ b) ∨ p ∨ ¬ ¬ q) := by
  rw [h]
  by_cases W <;> by_cases a <;> by_cases b <;> by_cases p <;> by_cases q <;> simp [*]
theorem sim_drift {M G : gm_M} (h : RR M G) (u a : Int32) : cod1 (thF (aW M u ∨ a < -2 ∨ 2 < a ∨ ¬ (¬ (M 1 3 (uN u) + a) < 100 ∧ ¬ 600 < (M 1 3 (uN u) + a))) "java/lang/IllegalArgumentException" none) = tM ((wM G u ∨ a < -2 ∨ ¬ a ≤ 2) ∨ (G 4 (uN u) 0 + a) < 100 ∨ ¬ (G 4 (uN u) 0 + a) ≤ 600) (gm_up G 0 0 0 1) (gm_up (gm_up G 0 0 0 0) 4 (uN u) 0 (G 4 (uN u) 0 + a)) 0 0 0
    ∧ RR (tO (thF (aW M u ∨ a < -2 ∨ 2 < a ∨ ¬ (¬ (M 1 3 (uN u) + a) < 100 ∧ ¬ 600 < (M 1 3 (uN u) + a))) "java/lang/IllegalArgumentException" none) (drF M (uN u) a) M) (tM ((wM G u ∨ a < -2 ∨ ¬ a ≤ 2) ∨ (G 4 (uN u) 0 + a) < 100 ∨ ¬ (G 4 (uN u) 0 + a) ≤ 600) (gm_up G 0 0 0 1) (gm_up (gm_up G 0 0 0 0) 4 (uN u) 0 (G 4 (uN u) 0 + a))) := by
  rw [cod_t]
  have key : (aW M u ∨ a < -2 ∨ 2 < a ∨ ¬ (¬ (M 1 3 (uN u) + a) < 100 ∧ ¬ 600 < (M 1 3 (uN u) + a))) ↔ ((wM G u ∨ a < -2 ∨ ¬ a ≤ 2) ∨ (G 4 (uN u) 0 + a) < 100 ∨ ¬ (G 4 (uN u) 0 + a) ≤ 600) := by
    by_cases hw : wM G u
    · exact ⟨fun _ => Or.inl (Or.inl hw), fun _ => Or.inl ((h.away u).mpr hw)⟩
    · obtain ⟨hn, hu, h0, e1, e2, e3⟩ := h.here hw
      rw [e3.2.1]
      have hw' := fun z => hw ((h.away u).mp z)
      rw [i_le (a := a), i_le (b := (600 : Int32))]
      exact prop1 ⟨fun z => absurd z hw', fun z => absurd z hw⟩
  rw [tF_congr key]
  by_cases hb : (wM G u ∨ a < -2 ∨ ¬ a ≤ 2) ∨ (G 4 (uN u) 0 + a) < 100 ∨ ¬ (G 4 (uN u) 0 + a) ≤ 600
  · rw [tM_t hb, tF_t hb, tO_t (key.mpr hb), gm_us]
    exact ⟨rfl, h.thrown 1⟩
  · have hb' := fun z => hb (key.mp z)
    rw [tM_f hb, tF_f hb, tO_f (thF_f hb')]
    refine ⟨by rw [gm_un1 (by decide), gm_us], ?_⟩
    obtain ⟨hn, hu, h0, e1, e2, e3⟩ := h.here (fun z => hb (Or.inl (Or.inl z)))
    have e3' := e3
    obtain ⟨z2, z3, z4, z6, z9, z10, z12, z13, z14, z11, zk, v, w, y1, y2, y3, y4, y5, y6⟩ := e3'
    have g1 : ¬ (G 4 (uN u) 0 + a) < 100 := fun z => hb (Or.inr (Or.inl z))
    have g2 : (G 4 (uN u) 0 + a) ≤ 600 := Classical.byContradiction (fun z => hb (Or.inr (Or.inr z)))
    obtain ⟨v', hv1, hv2, hv3⟩ : ∃ v' : Nat, 100 ≤ v' ∧ v' ≤ 600 ∧ G 4 (uN u) 0 + a = nI v' := by
      obtain ⟨j, hj, e⟩ := nI_of (x := G 4 (uN u) 0 + a) (fun z => g1 (by rw [Int32.lt_iff_toInt_lt] at z ⊢; simp at z ⊢; omega))
      rw [e] at g1 g2
      refine ⟨j, ?_, ?_, e⟩
      · exact Nat.le_of_not_lt (fun z => g1 ((nI_ltI hj (b := 100) (by decide)).mpr z))
      · exact (nI_leI hj (b := 600) (by decide)).mp g2
    refine h.unit (uN u) (fun k f m hk => ?_) (fun k f hk hk0 => by rw [gm_unA (by omega), gm_unA (by omega)]) ?_ (by rw [gm_un1 (by decide), gm_un1 (by decide)])
    · unfold drF
      split
      · rw [gm_unA (by omega), gm_unA (by omega)]
      · rw [gm_unA (by omega)]
    · have hv4 : M 1 3 (uN u) + a = nI v' := by rw [z3]; exact hv3
      by_cases hs : G 2 (uN u) 0 = 2
      · have hd : drF M (uN u) a = gm_up (gm_up M 1 3 (uN u) (M 1 3 (uN u) + a)) 1 5 (uN u) (M 1 5 (uN u) + a) := if_pos (e1.trans hs)
        have h5a : M 1 5 (uN u) + a = nI v' - nI w := by rw [(y6 hs).1, ← y1, i_inc, hv4]
        have h5b : M 1 5 (uN u) + a = ((G 4 (uN u) 0 + a) + 40 * G 0 7 0 + G 6 (uN u) 0) - 1000 := by
          rw [(y6 hs).2, erM, i_inc]
          congr 1
          rw [Int32.add_assoc, Int32.add_assoc, Int32.add_assoc, Int32.add_assoc, Int32.add_comm a, Int32.add_assoc]
        rw [hd, hv4]
        exact ⟨by simpa [gm_uA] using e1, by simpa [gm_uA] using e2, fun z => absurd (by simpa [gm_uA] using z) h0, fun _ => ⟨by simpa [gm_uA] using z2, by simp [gm_uA]; exact hv3.symm, by simpa [gm_uA] using z4, by simpa [gm_uA] using z6, by simpa [gm_uA] using z9, by simpa [gm_uA] using z10, by simpa [gm_uA] using z12, by simpa [gm_uA] using z13, by simpa [gm_uA] using z14, by simpa [gm_uA] using z11, zk.congr (by simp [gm_uA]) (by simp [gm_uA]) (by simp [gm_uA]), v', w, by simp [gm_uA], hv1, hv2, y4, fun z => absurd ((by simpa [gm_uA] using z : G 2 (uN u) 0 = 1).symm.trans hs) (by decide), fun _ => ⟨by simp [gm_uA]; exact h5a, by simp [gm_uA, erM]; exact h5b⟩⟩⟩
      · have hd : drF M (uN u) a = gm_up M 1 3 (uN u) (M 1 3 (uN u) + a) := if_neg (fun z => hs (e1.symm.trans z))
        have h51 := y5 ((e2.resolve_left h0).resolve_right hs)
        rw [hd, hv4]
        exact ⟨by simpa [gm_uA] using e1, by simpa [gm_uA] using e2, fun z => absurd (by simpa [gm_uA] using z) h0, fun _ => ⟨by simpa [gm_uA] using z2, by simp [gm_uA]; exact hv3.symm, by simpa [gm_uA] using z4, by simpa [gm_uA] using z6, by simpa [gm_uA] using z9, by simpa [gm_uA] using z10, by simpa [gm_uA] using z12, by simpa [gm_uA] using z13, by simpa [gm_uA] using z14, by simpa [gm_uA] using z11, zk.congr (by simp [gm_uA]) (by simp [gm_uA]) (by simp [gm_uA]), v', w, by simp [gm_uA], hv1, hv2, y4, fun _ => by simp [gm_uA]; exact h51, fun z => absurd (by simpa [gm_uA] using z) hs⟩⟩
theorem sim_container {M G : gm_M} (h : RR M G) (u c y : Int32) {d a : Nat} {q : Nat → Nat} {num : Nat → Nat → Nat} (hD : RD M G d a q num) : cod1 (thF (bU u ∨ bC c ∨ (y.toInt < 0 ∨ (3 : Int) < y.toInt)) "java/lang/IllegalArgumentException" none) = gm_up G 0 0 0 (tF (bU u ∨ bC c ∨ y < 0 ∨ ¬ y ≤ 3)) 0 0 0
    ∧ (thF (bU u ∨ bC c ∨ (y.toInt < 0 ∨ (3 : Int) < y.toInt)) "java/lang/IllegalArgumentException" none = none → cnF M (2 * uN u + uN c) (q (2 * uN u + uN c)) y = sdR ((bU u ∨ bC c ∨ y < 0 ∨ ¬ y ≤ 3) ∨ G 2 (uN u) 0 = 0) (cnM G (2 * uN u + uN c) (q (2 * uN u + uN c)) y)) ∧ RR (tO (thF (bU u ∨ bC c ∨ (y.toInt < 0 ∨ (3 : Int) < y.toInt)) "java/lang/IllegalArgumentException" none) M M) (gm_up G 0 0 0 (tF (bU u ∨ bC c ∨ y < 0 ∨ ¬ y ≤ 3))) := by
  rw [cod_t, gm_us]
  have e := tabBad y 3 (by decide)
  refine ⟨tF_congr (or_congr Iff.rfl (or_congr Iff.rfl e)), fun hn => ?_, ?_⟩
  · have hb := thF_none hn
    have hb1 : ¬ bU u := fun z => hb (Or.inl z)
    have hb3 : ¬ bC c := fun z => hb (Or.inr (Or.inl z))
    have hb2 : ¬ (y < 0 ∨ ¬ y ≤ nI 3) := fun z => hb (Or.inr (Or.inr (e.mpr z)))
    have h0 : ¬ y < 0 := fun z => hb2 (Or.inl z)
    have h6 : y ≤ nI 3 := Classical.byContradiction (fun z => hb2 (Or.inr z))
    obtain ⟨hu, hu5⟩ := bU_ix hb1
    obtain ⟨hc, hc2⟩ := bC_ix hb3
    obtain ⟨j, hj, rfl⟩ := nI_of2 (n := 3) (M := 3) rfl h0 h6
    have hC : 2 * uN u + uN c < 10 := by omega
    have hC2 : (2 * uN u + uN c) / 2 = uN u := by omega
    have h8 := hD.2.2.2.2.2.2.2.1
    obtain ⟨b1, b2, -⟩ := hD
    obtain ⟨r1, r2, r3, r4, r5, r6, r7, r8, r9⟩ := h.2.1 _ hC
    rw [hC2] at r7 r8
    by_cases hs : G 2 (uN u) 0 = 0
    · rw [sdR_t (Or.inr hs)]
      obtain ⟨z2, z3, z4, z5, z6, z7, z8, z9⟩ := r8 hs
      have hq0 : q (2 * uN u + uN c) = 0 := by
        have := (b1 _ hC).1
        rw [z2] at this
        have h88 := (b1 _ hC).2.1
        exact ((nI_eq (a := 0) (by decide) (by omega)).mp this).symm
      rcases (show j = 0 ∨ j = 1 ∨ j = 2 ∨ j = 3 by omega) with rfl | rfl | rfl | rfl
      · show bx_sum _ _ = 0
        rw [hq0]; rfl
      · exact z8
      · exact z9
      · exact z2
    · rw [sdR_f (fun z => z.elim (fun z => z.elim hb1 (fun z => z.elim hb3 hb2)) hs)]
      rcases (show j = 0 ∨ j = 1 ∨ j = 2 ∨ j = 3 by omega) with rfl | rfl | rfl | rfl
      · show bx_sum _ _ = bx_sum _ _
        refine bx_congr _ (fun k hk => ?_)
        obtain ⟨g1, g2, g3, ⟨l, g4, g5, g6, g7⟩, g8, g9⟩ := b2 _ k hC hk
        show M 11 k _ = G 30 (uN (G 28 _ 0)) 0
        rw [g2, show uN (nI (num (2 * uN u + uN c) k)) = num (2 * uN u + uN c) k from nI_clamp (by omega), g6, g7]
      · exact r5
      · exact r6
      · exact r1
  · by_cases p : bU u ∨ bC c ∨ (y.toInt < 0 ∨ (3 : Int) < y.toInt)
    · rw [tO_t p]; exact h.thrown _
    · rw [tO_f (thF_f p)]; exact h.thrown _
theorem uClear_ne {M : gm_M} {n k f m : Nat} (h1 : ¬ (k = 1 ∧ m = n)) (h2 : ¬ (k = 0 ∧ (m = 2 * n ∨ m = 2 * n + 1))) : uClear M n k f m = M k f m := by
  simp only [uClear, iter, cClear, uClr0]
  repeat (rw [gm_unA (by omega)])
theorem uClear_1 {M : gm_M} {n : Nat} : uClear M n 1 1 n = 0 ∧ RU0 (uClear M n) n := by
  refine ⟨?_, ?_, ?_, ?_, ?_, ?_, ?_, ?_, ?_, ?_, ?_, ?_, ?_, ?_⟩ <;> simp [uClear, iter, cClear, uClr0, gm_uA]
theorem uClear_0 {M : gm_M} {n m : Nat} (h : m = 2 * n ∨ m = 2 * n + 1) : RC0 (uClear M n) m := by
  rcases h with rfl | rfl
  · refine ⟨?_, ?_, ?_, ?_, ?_, ?_, ?_, ?_⟩ <;> simp [uClear, iter, cClear, uClr0, gm_uA]
  · refine ⟨?_, ?_, ?_, ?_, ?_, ?_, ?_, ?_⟩ <;> simp [uClear, iter, cClear, uClr0, gm_uA]
theorem emM_ne {G : gm_M} {n k f : Nat} (h : ¬ (20 ≤ k ∧ k ≤ 27 ∧ k ≠ 26 ∧ f = n)) : emM G n k f 0 = G k f 0 := by
  simp only [emM]
  repeat (rw [gm_unA (by omega)])
theorem emM_v {G : gm_M} {n : Nat} : emM G n 20 n 0 = 0 ∧ emM G n 21 n 0 = 0 ∧ emM G n 22 n 0 = 0 ∧ emM G n 23 n 0 = 1 ∧ emM G n 24 n 0 = 0 ∧ emM G n 25 n 0 = 0 ∧ emM G n 27 n 0 = 0 := by
  refine ⟨?_, ?_, ?_, ?_, ?_, ?_, ?_⟩ <;> simp [emM, gm_uA]
/-- both containers of a unit, emptied -/
def em2 (G : gm_M) (n : Nat) : gm_M := emM (emM G (2 * n)) (2 * n + 1)
theorem em2_ne {G : gm_M} {n k f : Nat} (h : ¬ (20 ≤ k ∧ k ≤ 27 ∧ k ≠ 26 ∧ (f = 2 * n ∨ f = 2 * n + 1))) : em2 G n k f 0 = G k f 0 := by
  rw [em2, emM_ne (by omega), emM_ne (by omega)]
theorem em2_v {G : gm_M} {n m : Nat} (h : m = 2 * n ∨ m = 2 * n + 1) : em2 G n 20 m 0 = 0 ∧ em2 G n 21 m 0 = 0 ∧ em2 G n 22 m 0 = 0 ∧ em2 G n 23 m 0 = 1 ∧ em2 G n 24 m 0 = 0 ∧ em2 G n 25 m 0 = 0 ∧ em2 G n 27 m 0 = 0 := by
  rcases h with rfl | rfl
  · rw [em2]
    obtain ⟨a1, a2, a3, a4, a5, a6, a7⟩ := emM_v (G := G) (n := 2 * n)
    exact ⟨by rw [emM_ne (by omega)]; exact a1, by rw [emM_ne (by omega)]; exact a2, by rw [emM_ne (by omega)]; exact a3, by rw [emM_ne (by omega)]; exact a4, by rw [emM_ne (by omega)]; exact a5, by rw [emM_ne (by omega)]; exact a6, by rw [emM_ne (by omega)]; exact a7⟩
  · exact emM_v
theorem sim_unplug {M G : gm_M} (h : RR M G) (u : Int32) : cod1 (thF (aW M u) "java/lang/IllegalArgumentException" none) = tM (wM G u) (gm_up G 0 0 0 1) (emM (emM (gm_up (gm_up G 0 0 0 0) 2 (uN u) 0 0) (2 * uN u)) (2 * uN u + 1)) 0 0 0
    ∧ RR (tO (thF (aW M u) "java/lang/IllegalArgumentException" none) (uClear M (uN u)) M) (tM (wM G u) (gm_up G 0 0 0 1) (emM (emM (gm_up (gm_up G 0 0 0 0) 2 (uN u) 0 0) (2 * uN u)) (2 * uN u + 1))) := by
  rw [cod_t]
  by_cases hw : wM G u
  · rw [tM_t hw, tF_t ((h.away u).mpr hw), tO_t ((h.away u).mpr hw), gm_us]
    exact ⟨rfl, h.thrown 1⟩
  · have hw' := fun z => hw ((h.away u).mp z)
    rw [tM_f hw, tF_f hw', tO_f (thF_f hw')]
    obtain ⟨hn, hu, h0, e1, e2, e3⟩ := h.here hw
    generalize uN u = n at hn hu h0 e1 e2 e3 ⊢
    show _ = em2 (gm_up (gm_up G 0 0 0 0) 2 n 0 0) n 0 0 0 ∧ RR _ (em2 (gm_up (gm_up G 0 0 0 0) 2 n 0 0) n)
    have hG : ∀ k f, ¬ (k = 0 ∧ f = 0) → ¬ (k = 2 ∧ f = n) → ¬ (20 ≤ k ∧ k ≤ 27 ∧ k ≠ 26 ∧ (f = 2 * n ∨ f = 2 * n + 1)) → em2 (gm_up (gm_up G 0 0 0 0) 2 n 0 0) n k f 0 = G k f 0 := fun k f h1 h2 h3 => by
      rw [em2_ne h3, gm_unA (by omega), gm_unA (by omega)]
    have hG2 : em2 (gm_up (gm_up G 0 0 0 0) 2 n 0 0) n 2 n 0 = 0 := by rw [em2_ne (by omega), gm_us]
    refine ⟨by rw [em2_ne (by omega), gm_un1 (by decide), gm_us], ?_⟩
    obtain ⟨h1, h2, h3, h4, d, a, q, num, h5⟩ := h
    refine ⟨fun v hv => ?_, fun c hc => ?_, ?_, ?_, d, a, fun x => if x = 2 * n ∨ x = 2 * n + 1 then 0 else q x, num, ?_⟩
    · by_cases e : v = n
      · subst e
        exact ⟨by rw [uClear_1.1, hG2], Or.inl hG2, fun _ => uClear_1.2, fun z => absurd hG2 z⟩
      · exact (h1 v hv).congr (fun f => uClear_ne (by omega) (by omega)) (fun k hk hk2 => hG k v (by omega) (by omega) (by omega)) (hG 0 7 (by omega) (by omega) (by omega))
    · by_cases e : c = 2 * n ∨ c = 2 * n + 1
      · have hz := uClear_0 (M := M) e
        have hz' := hz
        obtain ⟨a1, a2, a3, a4, a5, a6, a7⟩ := em2_v (G := gm_up (gm_up G 0 0 0 0) 2 n 0 0) e
        obtain ⟨z2, z3, z4, z5, z6, z7, z8, z9⟩ := hz
        have hcn : c / 2 = n := by omega
        exact ⟨by rw [z2, a7], by rw [z4, a1], by rw [z5, a2], by rw [z6, a3], by rw [z8, a5], by rw [z9, a6], fun z => absurd (by rw [hcn]; exact hG2) z, fun _ => hz', 0, by omega, z8⟩
      · exact (h2 c hc).congr (fun f _ _ => uClear_ne (by omega) (by omega)) (fun k hk _ _ => hG k c (by omega) (by omega) (by omega)) (by rw [hG 2 (c / 2) (by omega) (by omega) (by omega)])
    · obtain ⟨f, a', hf, hs⟩ := h3
      refine ⟨fun x => if x = 2 * n ∨ x = 2 * n + 1 then 0 else f x, fun x => if x = 2 * n ∨ x = 2 * n + 1 then 0 else a' x, fun c hc => ?_, ?_⟩
      · by_cases e : c = 2 * n ∨ c = 2 * n + 1
        · simp only [if_pos e]
          exact ⟨(uClear_0 e).2.2.1, (uClear_0 e).2.2.2.1⟩
        · simp only [if_neg e]
          rw [uClear_ne (by omega) (by omega), uClear_ne (by omega) (by omega)]
          exact hf c hc
      · have i1 : qs (fun x => if x = 2 * n ∨ x = 2 * n + 1 then 0 else f x) ≤ qs f := qs_mono (fun c hc => by split <;> omega)
        have i2 : qs (fun x => if x = 2 * n ∨ x = 2 * n + 1 then 0 else a' x) ≤ qs a' := qs_mono (fun c hc => by split <;> omega)
        omega
    · exact h4.congr (fun f _ _ _ _ => uClear_ne (by omega) (by omega)) (fun f hf => hG 0 f (by omega) (by omega) (by omega)) (fun f => uClear_ne (by omega) (by omega)) (fun f => hG 9 f (by omega) (by omega) (by omega))
    · obtain ⟨b1, b2, b3, b4, b5, b6, b7, b8, b9, b10, b11, b12⟩ := h5
      refine ⟨fun c hc => ?_, fun c k hc hk => ?_, fun c hc hq => ?_, fun c k c' k' hc hk hc' hk' he => ?_, fun m hm => ?_, ?_, ?_, b8, ?_, ?_, ?_, ?_⟩
      · by_cases e : c = 2 * n ∨ c = 2 * n + 1
        · simp only [if_pos e]
          exact ⟨(uClear_0 e).1, by omega, (em2_v e).2.2.2.2.2.2⟩
        · simp only [if_neg e]
          rw [uClear_ne (by omega) (by omega), hG 27 c (by omega) (by omega) (by omega)]
          exact b1 c hc
      · dsimp only at hk
        by_cases e : c = 2 * n ∨ c = 2 * n + 1
        · rw [if_pos e] at hk; omega
        · rw [if_neg e] at hk
          exact (b2 c k hc hk).congr (uClear_ne (by omega) (by omega)) (uClear_ne (by omega) (by omega)) (uClear_ne (by omega) (by omega)) (hG 28 _ (by omega) (by omega) (by omega)) (hG 30 _ (by omega) (by omega) (by omega)) (hG 31 _ (by omega) (by omega) (by omega)) (Nat.le_refl d)
      · by_cases e : c = 2 * n ∨ c = 2 * n + 1
        · exact (uClear_0 e).2.1
        · rw [uClear_ne (by omega) (by omega)]
          dsimp only at hq
          rw [if_neg e] at hq
          exact b3 c hc hq
      · dsimp only at hk hk'
        by_cases e : c = 2 * n ∨ c = 2 * n + 1
        · rw [if_pos e] at hk; omega
        · by_cases e' : c' = 2 * n ∨ c' = 2 * n + 1
          · rw [if_pos e'] at hk'; omega
          · rw [if_neg e] at hk
            rw [if_neg e'] at hk'
            exact b4 c k c' k' hc hk hc' hk' he
      · rw [hG 31 m (by omega) (by omega) (by omega)]; exact b5 m hm
      · rw [uClear_ne (by omega) (by omega)]; exact b6
      · rw [hG 0 28 (by omega) (by omega) (by omega)]; exact b7
      · rw [uClear_ne (by omega) (by omega)]; exact b9
      · rw [hG 0 31 (by omega) (by omega) (by omega)]; exact b10
      · have i1 : qs (fun x => if x = 2 * n ∨ x = 2 * n + 1 then 0 else q x) ≤ qs q := qs_mono (fun c hc => by split <;> omega)
        omega
      · exact b12.congr (fun k => uClear_ne (by omega) (by omega)) (fun k i hk => hG k i (by omega) (by omega) (by omega))
