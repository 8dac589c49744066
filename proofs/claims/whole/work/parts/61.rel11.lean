/-! ===== the frame (6): sending ===== -/
theorem cD_ne {n k f m : Nat} {M : gm_M} (h1 : k ≠ 10) (h2 : k ≠ 11) (j : Nat) : iter (cDrop1 n) j M k f m = M k f m :=
  iter_inv (P := fun Z => Z k f m = M k f m) (fun i Z hZ => by simp only [cDrop1]; rw [gm_un1 h2, gm_un1 h1]; exact hZ) rfl j
theorem cD_ke {n : Nat} {M : gm_M} : ∀ j k m, ¬ (m = n ∧ k < j) → iter (cDrop1 n) j M 10 k m = M 10 k m ∧ iter (cDrop1 n) j M 11 k m = M 11 k m
  | 0, _, _, _ => ⟨rfl, rfl⟩
  | j + 1, k, m, h => by
    obtain ⟨i1, i2⟩ := cD_ke (n := n) (M := M) j k m (by omega)
    rw [iter_s]
    simp only [cDrop1]
    exact ⟨by rw [gm_un1 (by decide), gm_unA (by omega)]; exact i1, by rw [gm_unA (by omega), gm_un1 (by decide)]; exact i2⟩
theorem cD_sh {n : Nat} {M : gm_M} : ∀ j k, k < j → iter (cDrop1 n) j M 10 k n = M 10 (k + 1) n ∧ iter (cDrop1 n) j M 11 k n = M 11 (k + 1) n
  | 0, k, h => by omega
  | j + 1, k, h => by
    rw [iter_s]
    simp only [cDrop1]
    by_cases e : k = j
    · subst e
      obtain ⟨i1, i2⟩ := cD_ke (n := n) (M := M) k (k + 1) n (by omega)
      exact ⟨by rw [gm_un1 (by decide), gm_us]; exact i1, by rw [gm_us]; exact i2⟩
    · obtain ⟨i1, i2⟩ := cD_sh (n := n) (M := M) j k (by omega)
      exact ⟨by rw [gm_un1 (by decide), gm_un2 e]; exact i1, by rw [gm_un2 e, gm_un1 (by decide)]; exact i2⟩
theorem cDrop_10 {M : gm_M} {n q : Nat} : (∀ k, k < q → cDrop M n q 10 k n = M 10 (k + 1) n ∧ cDrop M n q 11 k n = M 11 (k + 1) n) ∧ (∀ k m, m ≠ n → cDrop M n q 10 k m = M 10 k m ∧ cDrop M n q 11 k m = M 11 k m) ∧ cDrop M n q 0 3 n = 0 := by
  unfold cDrop
  refine ⟨fun k hk => ?_, fun k m hm => ?_, gm_us⟩
  · obtain ⟨i1, i2⟩ := cD_sh (n := n) (M := gm_up M 0 2 n (M 0 2 n - 1)) q k hk
    exact ⟨by rw [gm_un1 (by decide), i1, gm_un1 (by decide)], by rw [gm_un1 (by decide), i2, gm_un1 (by decide)]⟩
  · obtain ⟨i1, i2⟩ := cD_ke (n := n) (M := gm_up M 0 2 n (M 0 2 n - 1)) q k m (by omega)
    exact ⟨by rw [gm_un1 (by decide), i1, gm_un1 (by decide)], by rw [gm_un1 (by decide), i2, gm_un1 (by decide)]⟩
/-- a container's first datagram has gone -/
theorem drop_RR {M G M2 G2 : gm_M} (h : RR M G) {d a a2 q' c : Nat} {q : Nat → Nat} {num : Nat → Nat → Nat} (hD : RD M G d a q num) (hc : c < 10) (hst : ¬ G 2 (c / 2) 0 = 0) (hq : q c = q' + 1)
    (m1 : ∀ f u, M2 1 f u = M 1 f u) (m2 : ∀ f x, f ≠ 2 → f ≠ 3 → M2 0 f x = M 0 f x) (m3 : ∀ x, x ≠ c → M2 0 2 x = M 0 2 x ∧ M2 0 3 x = M 0 3 x) (m4 : M2 0 2 c = nI q') (m5 : M2 0 3 c = 0)
    (m6 : ∀ k, k < q' → M2 10 k c = M 10 (k + 1) c ∧ M2 11 k c = M 11 (k + 1) c) (m7 : ∀ k x, x ≠ c → M2 10 k x = M 10 k x ∧ M2 11 k x = M 11 k x) (m8 : M2 2 10 0 = M 2 10 0)
    (g1 : ∀ k f, 2 ≤ k → k ≤ 25 → G2 k f 0 = G k f 0) (g2 : G2 0 7 0 = G 0 7 0) (g3 : ∀ x, x ≠ c → G2 27 x 0 = G 27 x 0) (g4 : G2 27 c 0 = nI q') (g5 : ∀ k, k < q' → G2 28 (8 * c + k) 0 = G 28 (8 * c + (k + 1)) 0) (g6 : ∀ i, ¬ (8 * c ≤ i ∧ i < 8 * c + q') → G2 28 i 0 = G 28 i 0)
    (g7 : ∀ m, m ≠ num c 0 → G2 30 m 0 = G 30 m 0 ∧ G2 31 m 0 = G 31 m 0) (g8 : G2 0 28 0 = G 0 28 0) (hS : RS M2 G2) (hA1 : M2 2 11 0 = nI a2) (hA2 : G2 0 31 0 = nI a2) (hA3 : a2 ≤ a + 1) (hA : RA M2 G2 a2) : RR M2 G2 := by
  obtain ⟨h1, h2, h3, -, -⟩ := h
  obtain ⟨b1, b2, b3, b4, b5, b6, b7, b8, b9, b10, b11, b12⟩ := hD
  have hq8 := (b1 c hc).2.1
  refine ⟨fun u hu => (h1 u hu).congr (fun f => m1 f u) (fun k hk hk2 => g1 k u hk (by omega)) g2, fun x hx => ?_, h3.congr (fun x hx => ⟨m2 4 x (by decide) (by decide), m2 5 x (by decide) (by decide)⟩), hS, d, a2, fun x => if x = c then q' else q x, fun x k => if x = c then num c (k + 1) else num x k, ?_⟩
  · by_cases e : x = c
    · subst e
      obtain ⟨r1, r2, r3, r4, r5, r6, r7, r8, r9⟩ := h2 x hx
      rw [RC, m4, g4, m2 4 x (by decide) (by decide), m2 5 x (by decide) (by decide), m2 6 x (by decide) (by decide), m2 7 x (by decide) (by decide), m2 8 x (by decide) (by decide), m2 9 x (by decide) (by decide), g1 20 x (by decide) (by decide), g1 21 x (by decide) (by decide), g1 22 x (by decide) (by decide), g1 23 x (by decide) (by decide), g1 24 x (by decide) (by decide), g1 25 x (by decide) (by decide), g1 2 _ (by decide) (by decide)]
      exact ⟨rfl, r2, r3, r4, r5, r6, r7, fun z => absurd z hst, r9⟩
    · refine (h2 x hx).congr (fun f f1 f2 => ?_) (fun k k1 k2 k3 => ?_) (by rw [g1 2 _ (by decide) (by decide)])
      · by_cases e2 : f = 2
        · rw [e2]; exact (m3 x e).1
        · by_cases e3 : f = 3
          · rw [e3]; exact (m3 x e).2
          · exact m2 f x e2 e3
      · by_cases e27 : k = 27
        · rw [e27]; exact g3 x e
        · exact g1 k x (by omega) (by omega)
  · refine ⟨fun x hx => ?_, fun x k hx hk => ?_, fun x hx hq0 => ?_, fun x k x' k' hx hk hx' hk' he => ?_, fun m hm => ?_, by rw [m8]; exact b6, by rw [g8]; exact b7, b8, hA1, hA2, ?_, hA⟩
    · by_cases e : x = c
      · subst e
        simp only [if_pos]
        exact ⟨m4, by omega, g4⟩
      · simp only [if_neg e]
        rw [(m3 x e).1, g3 x e]
        exact b1 x hx
    · dsimp only at hk ⊢
      by_cases e : x = c
      · subst e
        rw [if_pos rfl] at hk ⊢
        obtain ⟨p1, p2, p3, p4, p5, p6⟩ := b2 x (k + 1) hx (by omega)
        have hne : num x (k + 1) ≠ num x 0 := fun z => by
          have := (b4 x (k + 1) x 0 hx (by omega) hx (by omega) z).2
          omega
        rw [RG, (m6 k hk).1, (m6 k hk).2, g5 k hk, (g7 _ hne).1, (g7 _ hne).2, m5]
        refine ⟨p1, p2, p3, p4, fun _ => ⟨fun _ => p6 (by omega), fun _ => rfl⟩, fun _ => p6 (by omega)⟩
      · rw [if_neg e] at hk ⊢
        have hne : num x k ≠ num c 0 := fun z => e (b4 x k c 0 hx hk hc (by omega) z).1
        have hq8' := (b1 x hx).2.1
        exact (b2 x k hx hk).congr (m7 k x e).1 (m7 k x e).2 (m3 x e).2 (g6 _ (by omega)) (g7 _ hne).1 (g7 _ hne).2 (Nat.le_refl d)
    · by_cases e : x = c
      · rw [e]; exact m5
      · dsimp only at hq0
        rw [if_neg e] at hq0
        rw [(m3 x e).2]; exact b3 x hx hq0
    · dsimp only at hk hk' he
      by_cases e : x = c
      · subst e
        rw [if_pos rfl] at hk he
        by_cases e' : x' = x
        · subst e'
          rw [if_pos rfl] at hk' he
          have := (b4 x' (k + 1) x' (k' + 1) hx (by omega) hx (by omega) he).2
          exact ⟨rfl, by omega⟩
        · rw [if_neg e'] at hk' he
          exact absurd (b4 x (k + 1) x' k' hx (by omega) hx' hk' he).1.symm e'
      · rw [if_neg e] at hk he
        by_cases e' : x' = c
        · subst e'
          rw [if_pos rfl] at hk' he
          exact absurd (b4 x k x' (k' + 1) hx hk hx' (by omega) he).1 e
        · rw [if_neg e'] at hk' he
          exact b4 x k x' k' hx hk hx' hk' he
    · have hn : num c 0 < d := (b2 c 0 hc (by omega)).2.2.1
      rw [(g7 m (by omega)).2]; exact b5 m hm
    · have := qs_upd q q' c hc
      omega
theorem cSend_v {M : gm_M} {c : Nat} {sp : Int32} : cSend M c sp 11 0 c = M 11 0 c - 1 ∧ (cSend M c sp 0 3 c = 0 ↔ sp = 0 ∧ M 0 3 c = 0) := by
  unfold cSend
  by_cases h : sp = 0
  · rw [if_pos h]
    exact ⟨gm_us, by rw [gm_un1 (by decide)]; exact ⟨fun z => ⟨h, z⟩, fun z => z.2⟩⟩
  · rw [if_neg h]
    exact ⟨by rw [gm_un1 (by decide), gm_us], by rw [gm_us]; exact ⟨fun z => absurd z (by decide), fun z => absurd z.1 h⟩⟩
theorem cSend_ne2 {M : gm_M} {c k f m : Nat} {sp : Int32} (h1 : ¬ (k = 11 ∧ f = 0 ∧ m = c)) (h2 : ¬ (k = 0 ∧ f = 3 ∧ m = c)) : cSend M c sp k f m = M k f m := by
  unfold cSend
  split
  · exact gm_unA h1
  · rw [gm_unA h2, gm_unA h1]
theorem sim_step {M G : gm_M} (h : RR M G) {c : Nat} (hc : c < 10) (hst : ¬ G 2 (c / 2) 0 = 0) (hq0 : ¬ M 0 2 c ≤ 0) : RR (sfStep c (M 1 14 (c / 2)) (nI (c / 2)) (nI (c % 2)) M) (sbF c G) := by
  have h' := h
  obtain ⟨h1, h2, h3, h4, d, a, q, num, hD⟩ := h'
  have hD' := hD
  obtain ⟨b1, b2, b3, b4, b5, b6, b7, b8, b9, b10, b11, b12⟩ := hD'
  obtain ⟨q', hq⟩ : ∃ q', q c = q' + 1 := ⟨q c - 1, by have : q c ≠ 0 := fun e => hq0 (by rw [(b1 c hc).1, e]; decide); omega⟩
  have hq8 := (b1 c hc).2.1
  have hqs := qs_ge q c hc
  have hG0 := b2 c 0 hc (by omega)
  have hG0' := hG0
  obtain ⟨p1, p2, p3, ⟨l, l1, l2, l3, l4⟩, p5, p6⟩ := hG0'
  have hp5 := p5 rfl
  have hsb : sbF c G = sbkM G c q' (num c 0) a := sbF_eq (by rw [(b1 c hc).2.2, hq]) (by omega) (by rw [← p2, Nat.add_zero]) (by omega) b10 (by omega)
  rw [hsb]
  have hsp : M 1 14 (c / 2) = G 7 (c / 2) 0 := ((h1 (c / 2) (by omega)).2.2.2 hst).2.2.2.2.2.2.2.2.1
  rw [hsp]
  obtain ⟨v1, v2⟩ := cSend_v (M := M) (c := c) (sp := G 7 (c / 2) 0)
  have hbrk : cSend M c (G 7 (c / 2) 0) 0 3 c = 0 ↔ ¬ brk G c (num c 0) := by
    rw [v2, hp5]
    simp only [brk]
    constructor
    · rintro ⟨z1, z2⟩ (z | z)
      · exact z z2
      · exact z z1
    · intro z
      exact ⟨Classical.byContradiction (fun y => z (Or.inr y)), Classical.byContradiction (fun y => z (Or.inl y))⟩
  have e30 : G 30 (num c 0) 0 - 1 = nI (l - 1) := by rw [l4, show l = (l - 1) + 1 by omega]; exact nI_pred (l - 1)
  have e11 : cSend M c (G 7 (c / 2) 0) 11 0 c = nI (l - 1) := by rw [v1, l3, show l = (l - 1) + 1 by omega]; exact nI_pred (l - 1)
  unfold sfStep sbkM
  rw [e11, e30]
  by_cases hl : l = 1
  · subst hl
    rw [if_pos (show nI (1 - 1) = 0 from rfl), tM_t (show nI (1 - 1) ≤ 0 by decide)]
    have s1 : ∀ k f, k ≠ 30 → k ≠ 31 → s1M G c (num c 0) k f 0 = G k f 0 := fun k f k1 k2 => by rw [s1M, gm_un1 k2, gm_un1 k1]
    have s7 : ∀ m, m ≠ num c 0 → s1M G c (num c 0) 30 m 0 = G 30 m 0 ∧ s1M G c (num c 0) 31 m 0 = G 31 m 0 := fun m hm => ⟨by rw [s1M, gm_un1 (by decide), gm_un2 hm], by rw [s1M, gm_un2 hm, gm_un1 (by decide)]⟩
    have hLM : ∀ k f, k ≠ 27 → k ≠ 28 → k ≠ 30 → k ≠ 31 → leM (s1M G c (num c 0)) c q' k f 0 = G k f 0 := fun k f k1 k2 k3 k4 => by rw [leM_ne k1 k2, s1 k f k3 k4]
    have hL27 : leM (s1M G c (num c 0)) c q' 27 c 0 = nI q' := by rw [leM_q, s1 27 c (by decide) (by decide), (b1 c hc).2.2, hq]; exact nI_pred q'
    have hL27o : ∀ x, x ≠ c → leM (s1M G c (num c 0)) c q' 27 x 0 = G 27 x 0 := fun x hx => by rw [leM_qo hx, s1 27 x (by decide) (by decide)]
    have hL28 : ∀ k, k < q' → leM (s1M G c (num c 0)) c q' 28 (8 * c + k) 0 = G 28 (8 * c + (k + 1)) 0 := fun k hk => by rw [leM_v, if_pos (by omega), s1 28 _ (by decide) (by decide)]; rfl
    have hL28o : ∀ i, ¬ (8 * c ≤ i ∧ i < 8 * c + q') → leM (s1M G c (num c 0)) c q' 28 i 0 = G 28 i 0 := fun i hi => by rw [leM_v, if_neg hi, s1 28 _ (by decide) (by decide)]
    have hL7 : ∀ m, m ≠ num c 0 → leM (s1M G c (num c 0)) c q' 30 m 0 = G 30 m 0 ∧ leM (s1M G c (num c 0)) c q' 31 m 0 = G 31 m 0 := fun m hm => ⟨by rw [leM_ne (by decide) (by decide)]; exact (s7 m hm).1, by rw [leM_ne (by decide) (by decide)]; exact (s7 m hm).2⟩
    generalize leM (s1M G c (num c 0)) c q' = L at hLM hL27 hL27o hL28 hL28o hL7 ⊢
    have hS2 : cSend M c (G 7 (c / 2) 0) 0 2 c = nI (q' + 1) := by rw [cSend_ne2 (by omega) (by omega), (b1 c hc).1, hq]
    have hS11 : cSend M c (G 7 (c / 2) 0) 2 11 0 = nI a := by rw [cSend_ne2 (by omega) (by omega)]; exact b9
    have hS10 : cSend M c (G 7 (c / 2) 0) 10 0 c = nI (num c 0) := by rw [cSend_ne2 (by omega) (by omega)]; exact p1
    have hSne : ∀ k f m, ¬ (k = 11 ∧ f = 0 ∧ m = c) → ¬ (k = 0 ∧ f = 3 ∧ m = c) → cSend M c (G 7 (c / 2) 0) k f m = M k f m := fun k f m k1 k2 => cSend_ne2 k1 k2
    generalize cSend M c (G 7 (c / 2) 0) = S at hbrk hS2 hS11 hS10 hSne ⊢
    simp only [RS] at h4
    obtain ⟨c1, c2, c3, c4, c5, c6, c7, c8, c9, c10, c11⟩ := h4
    by_cases hb : brk G c (num c 0)
    · rw [if_neg (fun z => hbrk.mp z hb), tM_t hb, cDropF_eq (q := q') (by rw [gm_un1 (by decide)]; exact hS2) (by omega)]
      obtain ⟨d1, d2, d3⟩ := cDrop_10 (M := gm_up S 2 12 0 (S 2 12 0 + 1)) (n := c) (q := q')
      have dn : ∀ k f m, k ≠ 10 → k ≠ 11 → ¬ (k = 0 ∧ (f = 2 ∨ f = 3) ∧ m = c) → cDrop (gm_up S 2 12 0 (S 2 12 0 + 1)) c q' k f m = gm_up S 2 12 0 (S 2 12 0 + 1) k f m := fun k f m k1 k2 k3 => cDrop_ne k1 k2 k3
      have dq : cDrop (gm_up S 2 12 0 (S 2 12 0 + 1)) c q' 0 2 c = nI q' := by rw [cDrop_q, gm_un1 (by decide), hS2]; exact nI_pred q'
      generalize cDrop (gm_up S 2 12 0 (S 2 12 0 + 1)) c q' = M2 at d1 d2 d3 dn dq ⊢
      have dM : ∀ k f m, k ≠ 10 → k ≠ 11 → ¬ (k = 0 ∧ (f = 2 ∨ f = 3) ∧ m = c) → ¬ (k = 2 ∧ f = 12) → M2 k f m = M k f m := fun k f m k1 k2 k3 k4 => by rw [dn k f m k1 k2 k3, gm_unA (by omega), hSne k f m (by omega) (by omega)]
      refine drop_RR (a2 := a) h hD hc hst hq (fun f u => dM 1 f u (by decide) (by decide) (by omega) (by omega)) (fun f x f2 f3 => dM 0 f x (by decide) (by decide) (by omega) (by omega)) (fun x hx => ⟨dM 0 2 x (by decide) (by decide) (by omega) (by omega), dM 0 3 x (by decide) (by decide) (by omega) (by omega)⟩) dq d3 (fun k hk => ?_) (fun k x hx => ?_) (dM 2 10 0 (by decide) (by decide) (by omega) (by omega)) (fun k f k1 k2 => by rw [gm_un1 (by omega)]; exact hLM k f (by omega) (by omega) (by omega) (by omega)) (by rw [gm_un2 (by decide)]; exact hLM 0 7 (by decide) (by decide) (by decide) (by decide)) (fun x hx => by rw [gm_un1 (by decide)]; exact hL27o x hx) (by rw [gm_un1 (by decide)]; exact hL27) (fun k hk => by rw [gm_un1 (by decide)]; exact hL28 k hk) (fun i hi => by rw [gm_un1 (by decide)]; exact hL28o i hi) (fun m hm => by rw [gm_un1 (by decide), gm_un1 (by decide)]; exact hL7 m hm) (by rw [gm_un2 (by decide)]; exact hLM 0 28 (by decide) (by decide) (by decide) (by decide)) ?_ (by rw [dM 2 11 0 (by decide) (by decide) (by omega) (by omega)]; exact b9) (by rw [gm_un2 (by decide), hLM 0 31 (by decide) (by decide) (by decide) (by decide)]; exact b10) (by omega) ?_
      · rw [(d1 k hk).1, (d1 k hk).2, gm_un1 (by decide), gm_un1 (by decide)]
        exact ⟨hSne 10 _ _ (by omega) (by omega), hSne 11 _ _ (by omega) (by omega)⟩
      · rw [(d2 k x hx).1, (d2 k x hx).2, gm_un1 (by decide), gm_un1 (by decide)]
        exact ⟨hSne 10 _ _ (by omega) (by omega), hSne 11 _ _ (by omega) (by omega)⟩
      · have e12 : M2 2 12 0 = M 2 12 0 + 1 := by rw [dn 2 12 0 (by decide) (by decide) (by omega), gm_us, hSne 2 12 0 (by omega) (by omega)]
        simp only [RS]
        rw [dM 2 6 0 (by decide) (by decide) (by omega) (by omega), dM 2 7 0 (by decide) (by decide) (by omega) (by omega), dM 2 8 0 (by decide) (by decide) (by omega) (by omega), dM 2 9 0 (by decide) (by decide) (by omega) (by omega), e12, dM 2 13 0 (by decide) (by decide) (by omega) (by omega), dM 2 14 0 (by decide) (by decide) (by omega) (by omega), dM 2 15 0 (by decide) (by decide) (by omega) (by omega), dM 4 0 0 (by decide) (by decide) (by omega) (by omega), dM 4 1 0 (by decide) (by decide) (by omega) (by omega)]
        rw [gm_us, gm_un2 (by decide), gm_un2 (by decide), gm_un2 (by decide), gm_un2 (by decide), gm_un2 (by decide), gm_un2 (by decide), gm_un2 (by decide), gm_un1 (by decide), gm_un1 (by decide)]
        rw [hLM 0 7 (by decide) (by decide) (by decide) (by decide), hLM 0 9 (by decide) (by decide) (by decide) (by decide), hLM 0 10 (by decide) (by decide) (by decide) (by decide), hLM 0 11 (by decide) (by decide) (by decide) (by decide), hLM 0 36 (by decide) (by decide) (by decide) (by decide), hLM 0 37 (by decide) (by decide) (by decide) (by decide), hLM 0 38 (by decide) (by decide) (by decide) (by decide), hLM 9 0 (by decide) (by decide) (by decide) (by decide), hLM 9 1 (by decide) (by decide) (by decide) (by decide)]
        exact ⟨c1, c2, c3, c4, c5, by rw [c6], c7, c8, c9, c10, c11⟩
      · exact b12.congr (fun k => dM 5 k 0 (by decide) (by decide) (by omega) (by omega)) (fun k i hk => by rw [gm_un1 (by omega)]; exact hLM k i (by omega) (by omega) (by omega) (by omega))
    · rw [if_pos (hbrk.mpr hb), tM_f hb, hS10, ntFF_eq hS11 (by omega), cDropF_eq (q := q') (by rw [ntF_ne (by decide) (by simp)]; exact hS2) (by omega)]
      obtain ⟨d1, d2, d3⟩ := cDrop_10 (M := ntF S a (nI (num c 0)) (nI (c / 2)) (nI (c % 2))) (n := c) (q := q')
      have dn : ∀ k f m, k ≠ 10 → k ≠ 11 → ¬ (k = 0 ∧ (f = 2 ∨ f = 3) ∧ m = c) → cDrop (ntF S a (nI (num c 0)) (nI (c / 2)) (nI (c % 2))) c q' k f m = ntF S a (nI (num c 0)) (nI (c / 2)) (nI (c % 2)) k f m := fun k f m k1 k2 k3 => cDrop_ne k1 k2 k3
      have dq : cDrop (ntF S a (nI (num c 0)) (nI (c / 2)) (nI (c % 2))) c q' 0 2 c = nI q' := by rw [cDrop_q, ntF_ne (by decide) (by simp), hS2]; exact nI_pred q'
      generalize cDrop (ntF S a (nI (num c 0)) (nI (c / 2)) (nI (c % 2))) c q' = M2 at d1 d2 d3 dn dq ⊢
      have dM : ∀ k f m, k ≠ 10 → k ≠ 11 → k ≠ 5 → ¬ (k = 0 ∧ (f = 2 ∨ f = 3) ∧ m = c) → ¬ (k = 2 ∧ f = 11) → M2 k f m = M k f m := fun k f m k1 k2 k5 k3 k4 => by rw [dn k f m k1 k2 k3, ntF_ne k5 k4, hSne k f m (by omega) (by omega)]
      have dA : M2 2 11 0 = nI (a + 1) := by rw [dn 2 11 0 (by decide) (by decide) (by omega), ntF_a]
      have hArr : ∀ k f, k ≠ 33 → k ≠ 34 → k ≠ 35 → ¬ (k = 0 ∧ f = 31) → arM L a (nI (num c 0)) c k f 0 = L k f 0 := fun k f k1 k2 k3 k4 => by rw [arM, gm_unA (by omega), gm_un1 k3, gm_un1 k2, gm_un1 k1]
      have hArr2 : ∀ k i, k = 33 ∨ k = 34 ∨ k = 35 → i ≠ a → arM L a (nI (num c 0)) c k i 0 = G k i 0 := fun k i hk hi => by rw [arM, gm_unA (by omega), gm_unA (by omega), gm_unA (by omega), gm_unA (by omega)]; exact hLM k i (by omega) (by omega) (by omega) (by omega)
      refine drop_RR (a2 := a + 1) h hD hc hst hq (fun f u => dM 1 f u (by decide) (by decide) (by decide) (by omega) (by omega)) (fun f x f2 f3 => dM 0 f x (by decide) (by decide) (by decide) (by omega) (by omega)) (fun x hx => ⟨dM 0 2 x (by decide) (by decide) (by decide) (by omega) (by omega), dM 0 3 x (by decide) (by decide) (by decide) (by omega) (by omega)⟩) dq d3 (fun k hk => ?_) (fun k x hx => ?_) (dM 2 10 0 (by decide) (by decide) (by decide) (by omega) (by omega)) (fun k f k1 k2 => by rw [hArr k f (by omega) (by omega) (by omega) (by omega)]; exact hLM k f (by omega) (by omega) (by omega) (by omega)) (by rw [hArr 0 7 (by omega) (by omega) (by omega) (by omega)]; exact hLM 0 7 (by decide) (by decide) (by decide) (by decide)) (fun x hx => by rw [hArr 27 x (by omega) (by omega) (by omega) (by omega)]; exact hL27o x hx) (by rw [hArr 27 c (by omega) (by omega) (by omega) (by omega)]; exact hL27) (fun k hk => by rw [hArr 28 _ (by omega) (by omega) (by omega) (by omega)]; exact hL28 k hk) (fun i hi => by rw [hArr 28 _ (by omega) (by omega) (by omega) (by omega)]; exact hL28o i hi) (fun m hm => by rw [hArr 30 m (by omega) (by omega) (by omega) (by omega), hArr 31 m (by omega) (by omega) (by omega) (by omega)]; exact hL7 m hm) (by rw [hArr 0 28 (by omega) (by omega) (by omega) (by omega)]; exact hLM 0 28 (by decide) (by decide) (by decide) (by decide)) ?_ dA (by rw [arM, gm_us, hLM 0 31 (by decide) (by decide) (by decide) (by decide), b10]; exact nI_1 a) (by omega) ?_
      · rw [(d1 k hk).1, (d1 k hk).2, ntF_ne (by decide) (by simp), ntF_ne (by decide) (by simp)]
        exact ⟨hSne 10 _ _ (by omega) (by omega), hSne 11 _ _ (by omega) (by omega)⟩
      · rw [(d2 k x hx).1, (d2 k x hx).2, ntF_ne (by decide) (by simp), ntF_ne (by decide) (by simp)]
        exact ⟨hSne 10 _ _ (by omega) (by omega), hSne 11 _ _ (by omega) (by omega)⟩
      · simp only [RS]
        rw [dM 2 6 0 (by decide) (by decide) (by decide) (by omega) (by omega), dM 2 7 0 (by decide) (by decide) (by decide) (by omega) (by omega), dM 2 8 0 (by decide) (by decide) (by decide) (by omega) (by omega), dM 2 9 0 (by decide) (by decide) (by decide) (by omega) (by omega), dM 2 12 0 (by decide) (by decide) (by decide) (by omega) (by omega), dM 2 13 0 (by decide) (by decide) (by decide) (by omega) (by omega), dM 2 14 0 (by decide) (by decide) (by decide) (by omega) (by omega), dM 2 15 0 (by decide) (by decide) (by decide) (by omega) (by omega), dM 4 0 0 (by decide) (by decide) (by decide) (by omega) (by omega), dM 4 1 0 (by decide) (by decide) (by decide) (by omega) (by omega)]
        rw [hArr 0 7 (by omega) (by omega) (by omega) (by omega), hArr 0 9 (by omega) (by omega) (by omega) (by omega), hArr 0 10 (by omega) (by omega) (by omega) (by omega), hArr 0 11 (by omega) (by omega) (by omega) (by omega), hArr 0 35 (by omega) (by omega) (by omega) (by omega), hArr 0 36 (by omega) (by omega) (by omega) (by omega), hArr 0 37 (by omega) (by omega) (by omega) (by omega), hArr 0 38 (by omega) (by omega) (by omega) (by omega), hArr 9 0 (by omega) (by omega) (by omega) (by omega), hArr 9 1 (by omega) (by omega) (by omega) (by omega)]
        rw [hLM 0 7 (by decide) (by decide) (by decide) (by decide), hLM 0 9 (by decide) (by decide) (by decide) (by decide), hLM 0 10 (by decide) (by decide) (by decide) (by decide), hLM 0 11 (by decide) (by decide) (by decide) (by decide), hLM 0 35 (by decide) (by decide) (by decide) (by decide), hLM 0 36 (by decide) (by decide) (by decide) (by decide), hLM 0 37 (by decide) (by decide) (by decide) (by decide), hLM 0 38 (by decide) (by decide) (by decide) (by decide), hLM 9 0 (by decide) (by decide) (by decide) (by decide), hLM 9 1 (by decide) (by decide) (by decide) (by decide)]
        exact ⟨c1, c2, c3, c4, c5, c6, c7, c8, c9, c10, c11⟩
      · have d5 : ∀ k, M2 5 k 0 = ntF S a (nI (num c 0)) (nI (c / 2)) (nI (c % 2)) 5 k 0 := fun k => dn 5 k 0 (by decide) (by decide) (by omega)
        have n5 : ∀ k, k < 4 * a → M2 5 k 0 = M 5 k 0 := fun k hk => by
          rw [d5, ntF, gm_un1 (by decide), gm_un2 (by omega), gm_un2 (by omega), gm_un2 (by omega), gm_un2 (by omega)]
          exact hSne 5 k 0 (by omega) (by omega)
        intro k hk
        by_cases e : k = a
        · subst e
          have f0 : M2 5 (4 * k) 0 = nI (num c 0) := by rw [d5, ntF, gm_un1 (by decide), gm_un2 (by omega), gm_un2 (by omega), gm_un2 (by omega), gm_us]
          have f1 : M2 5 (4 * k + 1) 0 = nI (c / 2) := by rw [d5, ntF, gm_un1 (by decide), gm_un2 (by omega), gm_un2 (by omega), gm_us]
          have f2 : M2 5 (4 * k + 2) 0 = nI (c % 2) := by rw [d5, ntF, gm_un1 (by decide), gm_un2 (by omega), gm_us]
          have f3 : M2 5 (4 * k + 3) 0 = S 2 9 0 := by rw [d5, ntF, gm_un1 (by decide), gm_us]
          have x0 : arM L k (nI (num c 0)) c 33 k 0 = nI (num c 0) := by rw [arM, gm_un1 (by decide), gm_un1 (by decide), gm_un1 (by decide), gm_us]
          have x1 : arM L k (nI (num c 0)) c 34 k 0 = nI c := by rw [arM, gm_un1 (by decide), gm_un1 (by decide), gm_us]
          have x2 : arM L k (nI (num c 0)) c 35 k 0 = L 0 11 0 := by rw [arM, gm_un1 (by decide), gm_us]
          rw [f0, f1, f2, f3, x0, x1, x2, hLM 0 11 (by decide) (by decide) (by decide) (by decide), hSne 2 9 0 (by omega) (by omega)]
          exact ⟨rfl, ⟨c, hc, rfl, rfl, rfl⟩, c5⟩
        · rw [n5 _ (by omega), n5 _ (by omega), n5 _ (by omega), n5 _ (by omega), hArr2 33 k (by decide) e, hArr2 34 k (by decide) e, hArr2 35 k (by decide) e]
          exact b12 k (by omega)
  · have hl0 : ¬ nI (l - 1) = 0 := nI_ne0 (by omega) (by omega)
    rw [if_neg hl0, tM_f (show ¬ nI (l - 1) ≤ 0 from nI_nle (by omega) (by omega))]
    have hSne : ∀ k f m, ¬ (k = 11 ∧ f = 0 ∧ m = c) → ¬ (k = 0 ∧ f = 3 ∧ m = c) → cSend M c (G 7 (c / 2) 0) k f m = M k f m := fun k f m k1 k2 => cSend_ne2 k1 k2
    have s1 : ∀ k f, k ≠ 30 → k ≠ 31 → s1M G c (num c 0) k f 0 = G k f 0 := fun k f k1 k2 => by rw [s1M, gm_un1 k2, gm_un1 k1]
    have s7 : ∀ m, m ≠ num c 0 → s1M G c (num c 0) 30 m 0 = G 30 m 0 ∧ s1M G c (num c 0) 31 m 0 = G 31 m 0 := fun m hm => ⟨by rw [s1M, gm_un1 (by decide), gm_un2 hm], by rw [s1M, gm_un2 hm, gm_un1 (by decide)]⟩
    have s30 : s1M G c (num c 0) 30 (num c 0) 0 = nI (l - 1) := by rw [s1M, gm_un1 (by decide), gm_us]; exact e30
    have s31 : s1M G c (num c 0) 31 (num c 0) 0 = tF (brk G c (num c 0)) := by rw [s1M, gm_us]
    generalize s1M G c (num c 0) = G2 at s1 s7 s30 s31 ⊢
    generalize cSend M c (G 7 (c / 2) 0) = S at hbrk hSne e11 ⊢
    refine ⟨fun u hu => (h1 u hu).congr (fun f => hSne 1 f u (by omega) (by omega)) (fun k hk hk2 => s1 k u (by omega) (by omega)) (s1 0 7 (by decide) (by decide)), fun x hx => ?_, h3.congr (fun x hx => ⟨hSne 0 4 x (by omega) (by omega), hSne 0 5 x (by omega) (by omega)⟩), h4.congr (fun f _ _ _ _ => hSne 2 f 0 (by omega) (by omega)) (fun f hf => s1 0 f (by decide) (by decide)) (fun f => hSne 4 f 0 (by omega) (by omega)) (fun f => s1 9 f (by decide) (by decide)), d, a, q, num, ?_⟩
    · by_cases e : x = c
      · subst e
        obtain ⟨r1, r2, r3, r4, r5, r6, r7, r8, r9⟩ := h2 x hx
        rw [RC, hSne 0 2 x (by omega) (by omega), hSne 0 4 x (by omega) (by omega), hSne 0 5 x (by omega) (by omega), hSne 0 6 x (by omega) (by omega), hSne 0 7 x (by omega) (by omega), hSne 0 8 x (by omega) (by omega), hSne 0 9 x (by omega) (by omega), s1 27 x (by decide) (by decide), s1 20 x (by decide) (by decide), s1 21 x (by decide) (by decide), s1 22 x (by decide) (by decide), s1 23 x (by decide) (by decide), s1 24 x (by decide) (by decide), s1 25 x (by decide) (by decide), s1 2 _ (by decide) (by decide)]
        exact ⟨r1, r2, r3, r4, r5, r6, r7, fun z => absurd z hst, r9⟩
      · exact (h2 x hx).congr (fun f _ _ => hSne 0 f x (by omega) (by omega)) (fun k _ _ _ => s1 k x (by omega) (by omega)) (by rw [s1 2 _ (by decide) (by decide)])
    · refine ⟨fun x hx => ?_, fun x k hx hk => ?_, fun x hx hq0 => ?_, b4, fun m hm => ?_, by rw [hSne 2 10 0 (by omega) (by omega)]; exact b6, by rw [s1 0 28 (by decide) (by decide)]; exact b7, b8, by rw [hSne 2 11 0 (by omega) (by omega)]; exact b9, by rw [s1 0 31 (by decide) (by decide)]; exact b10, b11, b12.congr (fun k => hSne 5 k 0 (by omega) (by omega)) (fun k i hk => s1 k i (by omega) (by omega))⟩
      · rw [hSne 0 2 x (by omega) (by omega), s1 27 x (by decide) (by decide)]; exact b1 x hx
      · by_cases e : x = c ∧ k = 0
        · obtain ⟨rfl, rfl⟩ := e
          rw [RG, hSne 10 0 x (by omega) (by omega), s1 28 _ (by decide) (by decide), e11, s30, s31]
          refine ⟨p1, p2, p3, ⟨l - 1, by omega, by omega, rfl, rfl⟩, fun _ => ?_, fun z => absurd rfl z⟩
          rw [hbrk]
          exact ⟨fun z => tF_f z, fun z => tF_eq z⟩
        · have hne : num x k ≠ num c 0 := fun z => e (b4 x k c 0 hx hk hc (by omega) z)
          have hr := b2 x k hx hk
          by_cases ec : x = c
          · subst ec
            obtain ⟨t1, t2, t3, t4, t5, t6⟩ := hr
            have hk0 : ¬ k = 0 := fun z => e ⟨rfl, z⟩
            rw [RG, hSne 10 k x (by omega) (by omega), hSne 11 k x (by omega) (by omega), s1 28 _ (by decide) (by decide), (s7 _ hne).1, (s7 _ hne).2]
            exact ⟨t1, t2, t3, t4, fun z => absurd z hk0, t6⟩
          · exact hr.congr (hSne 10 k x (by omega) (by omega)) (hSne 11 k x (by omega) (by omega)) (hSne 0 3 x (by omega) (by omega)) (s1 28 _ (by decide) (by decide)) (s7 _ hne).1 (s7 _ hne).2 (Nat.le_refl d)
      · have : x ≠ c := fun z => by rw [z, hq] at hq0; omega
        rw [hSne 0 3 x (by omega) (by omega)]; exact b3 x hx hq0
      · rw [(s7 m (by omega)).2]; exact b5 m hm
