/-! ===== the frame (2): keys, what is cleared, the quiet frame ===== -/
theorem i_xx (x m : Int32) : (x ^^^ m) ^^^ m = x := by rw [Int32.xor_assoc, Int32.xor_self, Int32.xor_zero]
theorem sim_word {M G : gm_M} (h : RR M G) {u : Nat} (hu : u < 5) (hs : G 2 u 0 = 2) : RR (uWord M u (M 2 9 0)) (ky1 G u) := by
  obtain ⟨a1, a2, a3, a4⟩ := h.1 u hu
  have h0 : ¬ G 2 u 0 = 0 := by rw [hs]; decide
  obtain ⟨z2, z3, z4, z6, z9, z10, z12, z13, z14, z11, zk, ze⟩ := a4 h0
  have hf : M 2 9 0 = G 0 11 0 := h.2.2.2.1.2.2.2.2.1
  unfold uWord ky1
  rw [z10]
  by_cases hw : G 16 u 0 = 0
  · rw [if_pos hw, if_pos hw]; exact h
  · rw [if_neg hw, if_neg hw, i_xx, z11 hw, z6, hf]
    refine h.unit u (fun k f m hk => by rw [gm_unA (by omega), gm_unA (by omega), gm_unA (by omega)]) (fun k f hk hk0 => by rw [gm_unA (by omega), gm_unA (by omega), gm_unA (by omega)]) ?_ (by rw [gm_un1 (by decide), gm_un1 (by decide), gm_un1 (by decide)])
    exact ⟨by simpa [gm_uA] using a1, by simpa [gm_uA] using a2, fun z => absurd (by simpa [gm_uA] using z) h0, fun _ => ⟨by simpa [gm_uA] using z2, by simpa [gm_uA] using z3, by simpa [gm_uA] using z4, by simpa [gm_uA] using z6, by simpa [gm_uA] using z9, by simp [gm_uA], by simp [gm_uA], by simp [gm_uA], by simpa [gm_uA] using z14, fun z => absurd (by simp [gm_uA]) z, zk.congr (by simp [gm_uA]) (by simp [gm_uA]) (by simp [gm_uA]), ze.congr (by simp [gm_uA]) (by simp [gm_uA]) (by simp [gm_uA]) (by simp [gm_uA]) (by simp [gm_uA]) (by simp [gm_uA])⟩⟩
theorem sim_tkey {M G : gm_M} (h : RR M G) {u : Nat} (hu : u < 5) (hs : G 2 u 0 = 2) : RR (uKey M u) (ky2 G u) := by
  obtain ⟨a1, a2, a3, a4⟩ := h.1 u hu
  have h0 : ¬ G 2 u 0 = 0 := by rw [hs]; decide
  obtain ⟨z2, z3, z4, z6, z9, z10, z12, z13, z14, z11, zk, ze⟩ := a4 h0
  unfold uKey ky2
  rw [z14]
  rcases zk with ⟨p, q⟩ | ⟨p, q, r⟩
  · rw [if_pos p, if_pos (by rw [q]; decide)]; exact h
  · rw [if_neg (by rw [p]; decide), if_neg r, q]
    by_cases hsp : G 7 u 0 = 0
    · rw [if_pos hsp, if_pos hsp]
      refine h.unit u (fun k f m hk => by rw [gm_unA (by omega), gm_unA (by omega), gm_unA (by omega)]) (fun k f hk hk0 => by rw [gm_unA (by omega), gm_unA (by omega), gm_unA (by omega)]) ?_ (by rw [gm_un1 (by decide), gm_un1 (by decide), gm_un1 (by decide)])
      exact ⟨by simpa [gm_uA] using a1, by simpa [gm_uA] using a2, fun z => absurd (by simpa [gm_uA] using z) h0, fun _ => ⟨by simpa [gm_uA] using z2, by simpa [gm_uA] using z3, by simpa [gm_uA] using z4, by simp [gm_uA], by simp [gm_uA], by simpa [gm_uA] using z10, by simpa [gm_uA] using z12, by simpa [gm_uA] using z13, by simpa [gm_uA] using z14, by simpa [gm_uA] using z11, Or.inl ⟨by simp [gm_uA], by simp [gm_uA]⟩, ze.congr (by simp [gm_uA]) (by simp [gm_uA]) (by simp [gm_uA]) (by simp [gm_uA]) (by simp [gm_uA]) (by simp [gm_uA])⟩⟩
    · rw [if_neg hsp, if_neg hsp]
      refine h.unit u (fun k f m hk => by rw [gm_unA (by omega)]) (fun k f hk hk0 => by rw [gm_unA (by omega)]) ?_ (by rw [gm_un1 (by decide)])
      have zk2 : RK (gm_up M 1 9 u (G 14 u 0)) (gm_up G 15 u 0 (G 14 u 0)) u := RK.congr (Or.inr ⟨p, q, r⟩) (by simp [gm_uA]) (by simp [gm_uA]) (by simp [gm_uA])
      exact ⟨by simpa [gm_uA] using a1, by simpa [gm_uA] using a2, fun z => absurd (by simpa [gm_uA] using z) h0, fun _ => ⟨by simpa [gm_uA] using z2, by simpa [gm_uA] using z3, by simpa [gm_uA] using z4, by simpa [gm_uA] using z6, by simp [gm_uA], by simpa [gm_uA] using z10, by simpa [gm_uA] using z12, by simpa [gm_uA] using z13, by simpa [gm_uA] using z14, by simpa [gm_uA] using z11, zk2, ze.congr (by simp [gm_uA]) (by simp [gm_uA]) (by simp [gm_uA]) (by simp [gm_uA]) (by simp [gm_uA]) (by simp [gm_uA])⟩⟩
theorem ky1_2 {G : gm_M} {u : Nat} : ky1 G u 2 u 0 = G 2 u 0 := by
  unfold ky1
  split
  · rfl
  · rw [gm_un1 (by decide), gm_un1 (by decide), gm_un1 (by decide)]
theorem sim_tell {M G : gm_M} (h : RR M G) {u : Nat} (hu : u < 5) : RR (tdF u M) (ks2 u G) := by
  have a1 := (h.1 u hu).1
  unfold tdF ks2
  by_cases hs : G 2 u 0 = 2
  · rw [if_pos hs, if_pos (a1.trans hs)]
    exact sim_tkey (sim_word h hu hs) hu (by rw [ky1_2]; exact hs)
  · rw [if_neg hs, if_neg (fun z => hs (a1.symm.trans z))]
    exact h
theorem sim_clear {M G : gm_M} (h : RR M G) {u : Nat} (hu : u < 5) : RR (csF u M) (cs2 u G) := by
  obtain ⟨a1, a2, a3, a4⟩ := h.1 u hu
  unfold csF cs2
  refine h.unit u (fun k f m hk => by rw [gm_unA (by omega)]) (fun k f hk hk0 => by rw [gm_unA (by omega)]) ?_ (by rw [gm_un1 (by decide)])
  refine ⟨by simpa [gm_uA] using a1, by simpa [gm_uA] using a2, fun z => ?_, fun z => ?_⟩
  · have := a3 (by simpa [gm_uA] using z)
    simp only [RU0] at this ⊢
    simp [gm_uA]
    obtain ⟨b2, b3, b4, b5, b6, b7, b8, b9, b10, b11, b12, b13, b14⟩ := this
    exact ⟨b2, b3, b4, b5, b6, b7, b8, b9, b10, b11, b12, b13⟩
  · obtain ⟨z2, z3, z4, z6, z9, z10, z12, z13, z14, z11, zk, ze⟩ := a4 (by simpa [gm_uA] using z)
    exact ⟨by simpa [gm_uA] using z2, by simpa [gm_uA] using z3, by simpa [gm_uA] using z4, by simpa [gm_uA] using z6, by simpa [gm_uA] using z9, by simpa [gm_uA] using z10, by simpa [gm_uA] using z12, by simpa [gm_uA] using z13, by simp [gm_uA], by simpa [gm_uA] using z11, zk.congr (by simp [gm_uA]) (by simp [gm_uA]) (by simp [gm_uA]), ze.congr (by simp [gm_uA]) (by simp [gm_uA]) (by simp [gm_uA]) (by simp [gm_uA]) (by simp [gm_uA]) (by simp [gm_uA])⟩
/-! the quiet frame -/
def cN (M : gm_M) (w : Nat) : Nat → Nat
  | 0 => 0
  | j + 1 => cN M w j + (if M 1 1 j = 1 ∧ wN M j = w then 1 else 0)
theorem cN_0 (M : gm_M) (w : Nat) : ∀ n, cN M w n = 0 ↔ ∀ k, k < n → ¬ (M 1 1 k = 1 ∧ wN M k = w)
  | 0 => ⟨fun _ k hk => absurd hk (Nat.not_lt_zero k), fun _ => rfl⟩
  | n + 1 => by
    have ih := cN_0 M w n
    rw [cN]
    by_cases hb : M 1 1 n = 1 ∧ wN M n = w
    · rw [if_pos hb]
      exact ⟨fun z => by omega, fun z => absurd hb (z n (by omega))⟩
    · rw [if_neg hb, Nat.add_zero, ih]
      refine ⟨fun z k hk => ?_, fun z k hk => z k (by omega)⟩
      by_cases e : k = n
      · rw [e]; exact hb
      · exact z k (by omega)
theorem cN_1 (M : gm_M) (w u : Nat) (hb : M 1 1 u = 1 ∧ wN M u = w) : ∀ n, u < n → (cN M w n = 1 ↔ ∀ k, k < n → k = u ∨ ¬ (M 1 1 k = 1 ∧ wN M k = w))
  | 0, h => absurd h (Nat.not_lt_zero u)
  | n + 1, h => by
    rw [cN]
    by_cases e : u = n
    · subst e
      rw [if_pos hb]
      have ih := cN_0 M w u
      refine ⟨fun z k hk => ?_, fun z => ?_⟩
      · by_cases e : k = u
        · exact Or.inl e
        · exact Or.inr (ih.mp (by omega) k (by omega))
      · have := ih.mpr (fun k hk => (z k (by omega)).resolve_left (by omega))
        omega
    · have ih := cN_1 M w u hb n (by omega)
      have hpos : cN M w n ≠ 0 := fun z => (cN_0 M w n).mp z u (by omega) hb
      by_cases hn : M 1 1 n = 1 ∧ wN M n = w
      · rw [if_pos hn]
        exact ⟨fun z => by omega, fun z => absurd hn ((z n (by omega)).resolve_left (by omega))⟩
      · rw [if_neg hn, Nat.add_zero, ih]
        refine ⟨fun z k hk => ?_, fun z k hk => z k (by omega)⟩
        by_cases e2 : k = n
        · rw [e2]; exact Or.inr hn
        · exact z k (by omega)
theorem cN_le (M : gm_M) (w : Nat) : ∀ n, cN M w n ≤ n
  | 0 => Nat.le_refl 0
  | n + 1 => by
    rw [cN]
    have := cN_le M w n
    split <;> omega
theorem pq1_v (M : gm_M) : ∀ j k f m, iter pq1 j M k f m = if k = 6 ∧ f < j ∧ m = 0 then 0 else M k f m
  | 0, k, f, m => by rw [if_neg (by omega)]; rfl
  | j + 1, k, f, m => by
    rw [iter_s]
    simp only [pq1]
    by_cases h : k = 6 ∧ f = j ∧ m = 0
    · obtain ⟨rfl, rfl, rfl⟩ := h
      rw [gm_us, if_pos (by omega)]
    · rw [gm_unA h, pq1_v M j k f m]
      by_cases h2 : k = 6 ∧ f < j ∧ m = 0
      · rw [if_pos h2, if_pos (by omega)]
      · rw [if_neg h2, if_neg (by omega)]
theorem wN_congr {M N : gm_M} {u : Nat} (h2 : N 1 2 u = M 1 2 u) (h4 : N 1 4 u = M 1 4 u) : wN N u = wN M u := by
  unfold wN
  rw [h2, h4]
theorem pq2_v (M N : gm_M) (hN : ∀ f u, N 1 f u = M 1 f u) (h6 : ∀ w, w < 8 → N 6 w 0 = 0) : ∀ j, (∀ k f m, k ≠ 6 → iter pq2 j N k f m = N k f m) ∧ ∀ w, w < 8 → iter pq2 j N 6 w 0 = nI (cN M w j)
  | 0 => ⟨fun _ _ _ _ => rfl, fun w hw => h6 w hw⟩
  | j + 1 => by
    obtain ⟨i1, i2⟩ := pq2_v M N hN h6 j
    have e1 : iter pq2 j N 1 1 j = M 1 1 j := by rw [i1 1 1 j (by decide), hN]
    have e2 : wN (iter pq2 j N) j = wN M j := wN_congr (by rw [i1 1 2 j (by decide), hN]) (by rw [i1 1 4 j (by decide), hN])
    rw [iter_s]
    generalize iter pq2 j N = Z at i1 i2 e1 e2 ⊢
    unfold pq2
    rw [e1, e2]
    by_cases hs : M 1 1 j = 1
    · rw [if_pos hs]
      refine ⟨fun k f m hk => by rw [gm_un1 hk]; exact i1 k f m hk, fun w hw => ?_⟩
      by_cases e : w = wN M j
      · subst e
        rw [gm_us, i2 _ (wN_lt M j), cN, if_pos ⟨hs, rfl⟩]
        exact nI_1 _
      · rw [gm_un2 e, cN, if_neg (fun z => e z.2.symm), Nat.add_zero]
        exact i2 w hw
    · rw [if_neg hs]
      refine ⟨i1, fun w hw => ?_⟩
      rw [cN, if_neg (fun z => hs z.1), Nat.add_zero]
      exact i2 w hw
theorem quiet_cond {M G : gm_M} (h : RR M G) {u : Nat} (hu : u < 5) (hs : G 2 u 0 = 1) : nI (cN M (wN M u) 5) = 1 ↔ isJ G u 5 := by
  have hw : ∀ k, k < 5 → G 2 k 0 = 1 → winF (G 3 k 0) (G 5 k 0) = nI (wN M k) := fun k hk hk1 => by
    obtain ⟨a1, a2, a3, a4⟩ := h.1 k hk
    obtain ⟨z2, z3, z4, -⟩ := a4 (by rw [hk1]; decide)
    rw [← z2, ← z4]
    exact wN_eq M k
  have hst : ∀ k, k < 5 → M 1 1 k = G 2 k 0 := fun k hk => (h.1 k hk).1
  have hle := cN_le M (wN M u) 5
  rw [show (1 : Int32) = nI 1 from rfl, nI_eq (by omega) (by decide), cN_1 M (wN M u) u ⟨(hst u hu).trans hs, rfl⟩ 5 hu]
  constructor
  · intro z
    refine ⟨hs, fun k hk => ?_⟩
    rcases z k hk with e | e
    · exact Or.inl e
    · by_cases hk1 : G 2 k 0 = 1
      · refine Or.inr (Or.inr (fun q => e ⟨(hst k hk).trans hk1, ?_⟩))
        rw [hw k hk hk1, hw u hu hs] at q
        exact (nI_eq (by have := wN_lt M k; omega) (by have := wN_lt M u; omega)).mp q
      · exact Or.inr (Or.inl hk1)
  · rintro ⟨-, z⟩ k hk
    rcases z k hk with e | e | e
    · exact Or.inl e
    · exact Or.inr (fun q => e ((hst k hk).symm.trans q.1))
    · refine Or.inr (fun q => ?_)
      have hk1 : G 2 k 0 = 1 := (hst k hk).symm.trans q.1
      rw [hw k hk hk1, hw u hu hs, q.2] at e
      exact e rfl
theorem sim_quiet {M G : gm_M} (h : RR M G) : RR (pqF M) (iter (qf2 G) 5 G) := by
  have e1 : ∀ k f m, k ≠ 6 → iter pq1 8 M k f m = M k f m := fun k f m hk => by rw [pq1_v, if_neg (by omega)]
  obtain ⟨e2, e3⟩ := pq2_v M (iter pq1 8 M) (fun f u => e1 1 f u (by decide)) (fun w hw => by rw [pq1_v, if_pos ⟨rfl, hw, rfl⟩]) 5
  have hP1 : ∀ k f m, k ≠ 6 → iter pq2 5 (iter pq1 8 M) k f m = M k f m := fun k f m hk => by rw [e2 k f m hk, e1 k f m hk]
  unfold pqF
  generalize iter pq2 5 (iter pq1 8 M) = P at hP1 e3 ⊢
  have hPR : RR P G := h.scal (fun k f m _ h2 => hP1 k f m (by omega)) (fun _ _ _ _ => rfl) (h.2.2.2.1.congr (fun f _ _ _ _ => hP1 2 f 0 (by decide)) (fun _ _ => rfl) (fun f => hP1 4 f 0 (by decide)) (fun _ => rfl))
  have key : ∀ j, j ≤ 5 → RR (iter pq3 j P) (iter (qf2 G) j G) ∧ (∀ v, j ≤ v → ∀ f, iter pq3 j P 1 f v = M 1 f v) ∧ ∀ w, iter pq3 j P 6 w 0 = P 6 w 0 := by
    intro j
    induction j with
    | zero => intro _; exact ⟨hPR, fun v _ f => hP1 1 f v (by decide), fun _ => rfl⟩
    | succ j ih =>
      intro hj
      obtain ⟨i1, i2, i3⟩ := ih (by omega)
      have hj5 : j < 5 := by omega
      rw [iter_s pq3 j, iter_s (qf2 G) j]
      generalize iter pq3 j P = M1 at i1 i2 i3 ⊢
      generalize iter (qf2 G) j G = G1 at i1 ⊢
      obtain ⟨a1, a2, a3, a4⟩ := i1.1 j hj5
      have hst : G1 2 j 0 = G 2 j 0 := by rw [← a1, i2 j (Nat.le_refl j)]; exact (h.1 j hj5).1
      have hwn : wN M1 j = wN M j := wN_congr (i2 j (Nat.le_refl j) 2) (i2 j (Nat.le_refl j) 4)
      unfold pq3 qf2
      rw [a1, hwn, i3, e3 _ (wN_lt M j), hst]
      by_cases hs : G 2 j 0 = 1
      · rw [if_pos hs, if_pos hs]
        have h0 : ¬ G1 2 j 0 = 0 := by rw [hst, hs]; decide
        obtain ⟨z2, z3, z4, z6, z9, z10, z12, z13, z14, z11, zk, v, w, y1, y2, y3, y4, y5, y6⟩ := a4 h0
        by_cases hq : isJ G j 5
        · rw [if_pos ((quiet_cond h hj5 hs).mpr hq), tM_t hq]
          refine ⟨?_, fun v hv f => by rw [gm_un3 (by omega)]; exact i2 v (by omega) f, fun w => by rw [gm_un1 (by decide)]; exact i3 w⟩
          refine i1.unit j (fun k f m hk => by rw [gm_unA (by omega)]) (fun k f hk hk0 => by rw [lvM, gm_unA (by omega), gm_unA (by omega)]) ?_ ?_
          · have g6 : lvM (gm_up G1 2 j 0 2) j 6 j 0 = (1000 - G1 4 j 0) - 40 * G1 0 7 0 := by rw [lvM, gm_us, gm_un1 (by decide), gm_un1 (by decide)]
            have g : ∀ k, k ≠ 6 → k ≠ 2 → lvM (gm_up G1 2 j 0 2) j k j 0 = G1 k j 0 := fun k k6 k2 => by rw [lvM, gm_un1 k6, gm_un1 k2]
            have g2 : lvM (gm_up G1 2 j 0 2) j 2 j 0 = 2 := by rw [lvM, gm_un1 (by decide), gm_us]
            have g7 : lvM (gm_up G1 2 j 0 2) j 0 7 0 = G1 0 7 0 := by rw [lvM, gm_un1 (by decide), gm_un1 (by decide)]
            have s : ∀ f, f ≠ 1 → gm_up M1 1 1 j 2 1 f j = M1 1 f j := fun f hf => gm_un2 hf
            refine ⟨by rw [gm_us, g2], Or.inr (Or.inr g2), fun z => absurd (g2.symm.trans z) (by decide), fun _ => ⟨?_, ?_, ?_, ?_, ?_, ?_, ?_, ?_, ?_, ?_, zk.congr (s 7 (by decide)) (s 8 (by decide)) (g 14 (by decide) (by decide)), v, v, by rw [s 3 (by decide)]; exact y1, y2, y3, by omega, fun z => absurd (g2.symm.trans z) (by decide), fun _ => ⟨?_, ?_⟩⟩⟩
            · rw [s 2 (by decide), g 3 (by decide) (by decide)]; exact z2
            · rw [s 3 (by decide), g 4 (by decide) (by decide)]; exact z3
            · rw [s 4 (by decide), g 5 (by decide) (by decide)]; exact z4
            · rw [s 6 (by decide), g 13 (by decide) (by decide)]; exact z6
            · rw [s 9 (by decide), g 15 (by decide) (by decide)]; exact z9
            · rw [s 10 (by decide), g 16 (by decide) (by decide)]; exact z10
            · rw [s 12 (by decide), g 18 (by decide) (by decide)]; exact z12
            · rw [s 13 (by decide), g 19 (by decide) (by decide)]; exact z13
            · rw [s 14 (by decide), g 7 (by decide) (by decide)]; exact z14
            · rw [s 11 (by decide), g 16 (by decide) (by decide), g 17 (by decide) (by decide)]; exact z11
            · rw [s 5 (by decide), y5 (hst.trans hs), Int32.sub_self]
            · rw [s 5 (by decide), y5 (hst.trans hs), erM, g 4 (by decide) (by decide), g7, g6]
              exact (i_lv _ _ _).symm
          · rw [lvM, gm_un1 (by decide), gm_us, hst, hs]; decide
        · rw [if_neg (fun z => hq ((quiet_cond h hj5 hs).mp z)), tM_f hq]
          refine ⟨?_, fun v hv f => by rw [gm_un3 (by omega)]; exact i2 v (by omega) f, fun w => by rw [gm_un1 (by decide)]; exact i3 w⟩
          refine i1.unit j (fun k f m hk => by rw [gm_unA (by omega)]) (fun k f hk hk0 => by rw [gm_unA (by omega)]) ?_ (by rw [gm_un1 (by decide)])
          have ze : RE M1 G1 j := ⟨v, w, y1, y2, y3, y4, y5, y6⟩
          exact ⟨by simpa [gm_uA] using a1, by simpa [gm_uA] using a2, fun z => absurd (by simpa [gm_uA] using z) h0, fun _ => ⟨by simpa [gm_uA] using z2, by simpa [gm_uA] using z3, by simp [gm_uA, z4], by simpa [gm_uA] using z6, by simpa [gm_uA] using z9, by simpa [gm_uA] using z10, by simpa [gm_uA] using z12, by simpa [gm_uA] using z13, by simpa [gm_uA] using z14, by simpa [gm_uA] using z11, zk.congr (by simp [gm_uA]) (by simp [gm_uA]) (by simp [gm_uA]), ze.congr (by simp [gm_uA]) (by simp [gm_uA]) (by simp [gm_uA]) (by simp [gm_uA]) (by simp [gm_uA]) (by simp [gm_uA])⟩⟩
      · rw [if_neg hs, if_neg hs, tM_f (fun z => hs z.1)]
        exact ⟨i1, fun v hv f => i2 v (by omega) f, i3⟩
  exact (key 5 (Nat.le_refl 5)).1
