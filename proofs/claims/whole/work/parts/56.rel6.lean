/-! ===== the frame (1): dark, errors, keys ===== -/
theorem RR_iter {f g : Nat → gm_M → gm_M} (n : Nat) (hs : ∀ u M G, u < n → RR M G → RR (f u M) (g u G)) {M G : gm_M} (h : RR M G) : ∀ k, k ≤ n → RR (iter f k M) (iter g k G)
  | 0, _ => h
  | k + 1, hk => hs k _ _ (by omega) (RR_iter n hs h k (by omega))
/-- a unit's own ints and the counters have moved -/
theorem RR.unitS {M G M' G' : gm_M} (h : RR M G) (n : Nat) (hM : ∀ k f m, ¬ (k = 1 ∧ m = n) → ¬ (k = 2 ∧ f ≠ 10 ∧ f ≠ 11) → M' k f m = M k f m) (hG : ∀ k f, ¬ (f = n ∧ 2 ≤ k ∧ k ≤ 19 ∧ k ≠ 9) → ¬ (k = 0 ∧ f ≠ 7 ∧ f ≠ 28 ∧ f ≠ 31) → G' k f 0 = G k f 0) (hU : RU M' G' n) (hs : G' 2 n 0 = 0 ↔ G 2 n 0 = 0) (hS : RS M' G') : RR M' G' := by
  obtain ⟨h1, h2, h3, h4, d, a, q, num, h5⟩ := h
  refine ⟨fun u hu => ?_, fun c hc => ?_, ?_, hS, d, a, q, num, ?_⟩
  · by_cases e : u = n
    · rw [e]; exact hU
    · exact (h1 u hu).congr (fun f => hM 1 f u (by omega) (by omega)) (fun k hk hk2 => hG k u (by omega) (by omega)) (hG 0 7 (by omega) (by omega))
  · refine (h2 c hc).congr (fun f _ _ => hM 0 f c (by omega) (by omega)) (fun k hk _ _ => hG k c (by omega) (by omega)) ?_
    by_cases e : c / 2 = n
    · rw [e]; exact hs
    · rw [hG 2 (c / 2) (by omega) (by omega)]
  · exact h3.congr (fun c hc => ⟨hM 0 4 c (by omega) (by omega), hM 0 5 c (by omega) (by omega)⟩)
  · exact h5.congr (fun c hc => ⟨hM 0 2 c (by omega) (by omega), hM 0 3 c (by omega) (by omega)⟩) (fun k c => ⟨hM 10 k c (by omega) (by omega), hM 11 k c (by omega) (by omega)⟩) ⟨hM 2 10 0 (by omega) (by omega), hM 2 11 0 (by omega) (by omega)⟩ (fun k => hM 5 k 0 (by omega) (by omega)) (fun k i hk => hG k i (by omega) (by omega)) ⟨hG 0 28 (by omega) (by omega), hG 0 31 (by omega) (by omega)⟩
/-- only counters have moved (the active feeder too) -/
theorem RR.scal {M G M' G' : gm_M} (h : RR M G) (hM : ∀ k f m, ¬ (k = 2 ∧ f ≠ 10 ∧ f ≠ 11) → ¬ (k = 6 ∨ k = 7 ∨ k = 8) → M' k f m = M k f m) (hG : ∀ k f, ¬ (k = 0 ∧ f ≠ 7 ∧ f ≠ 28 ∧ f ≠ 31) → ¬ (k = 40 ∨ k = 41) → G' k f 0 = G k f 0) (hS : RS M' G') : RR M' G' := by
  obtain ⟨h1, h2, h3, h4, d, a, q, num, h5⟩ := h
  refine ⟨fun u hu => (h1 u hu).congr (fun f => hM 1 f u (by omega) (by omega)) (fun k hk hk2 => hG k u (by omega) (by omega)) (hG 0 7 (by omega) (by omega)), fun c hc => (h2 c hc).congr (fun f _ _ => hM 0 f c (by omega) (by omega)) (fun k hk _ _ => hG k c (by omega) (by omega)) (by rw [hG 2 (c / 2) (by omega) (by omega)]), h3.congr (fun c hc => ⟨hM 0 4 c (by omega) (by omega), hM 0 5 c (by omega) (by omega)⟩), hS, d, a, q, num, ?_⟩
  exact h5.congr (fun c hc => ⟨hM 0 2 c (by omega) (by omega), hM 0 3 c (by omega) (by omega)⟩) (fun k c => ⟨hM 10 k c (by omega) (by omega), hM 11 k c (by omega) (by omega)⟩) ⟨hM 2 10 0 (by omega) (by omega), hM 2 11 0 (by omega) (by omega)⟩ (fun k => hM 5 k 0 (by omega) (by omega)) (fun k i hk => hG k i (by omega) (by omega)) ⟨hG 0 28 (by omega) (by omega), hG 0 31 (by omega) (by omega)⟩
theorem sim_frA {M G : gm_M} (h : RR M G) : RR (frA M) (faM G) := by
  refine h.scal (fun k f m h1 h2 => by rw [frA, gm_unA (by omega)]) (fun k f h1 h2 => by rw [faM, gm_unA (by omega), gm_unA (by omega)]) ?_
  have h4 := h.2.2.2.1
  simp only [RS] at h4 ⊢
  obtain ⟨c1, c2, c3, c4, c5, c6, c7, c8, c9, c10, c11⟩ := h4
  simp [frA, faM, gm_uA]
  exact ⟨c1, c2, c3, c4, by rw [c5], c6, c7, c8, c9, c10, c11⟩
theorem sim_frB {M G : gm_M} (h : RR M G) : RR (frB M) (fbM G) := by
  have h' := sim_frA h
  refine h'.scal (fun k f m h1 h2 => by rw [frB, gm_unA (by omega)]) (fun k f h1 h2 => by rw [fbM, gm_unA (by omega)]) ?_
  have h4 := h'.2.2.2.1
  simp only [RS] at h4 ⊢
  obtain ⟨c1, c2, c3, c4, c5, c6, c7, c8, c9, c10, c11⟩ := h4
  simp only [frB, fbM, gm_uA]
  simp
  exact ⟨c1, c2, c4, c5, c6, c7, c8, c9, c10, c11⟩
theorem sim_frQ {M G : gm_M} (h : RR M G) : RR (frQ M) (fqM G) := by
  have h' := sim_frB h
  refine h'.scal (fun k f m h1 h2 => by rw [frQ, gm_unA (by omega)]) (fun k f h1 h2 => by rw [fqM, gm_unA (by omega)]) ?_
  have h4 := h'.2.2.2.1
  simp only [RS] at h4 ⊢
  obtain ⟨c1, c2, c3, c4, c5, c6, c7, c8, c9, c10, c11⟩ := h4
  simp only [frQ, fqM, gm_uA]
  simp
  exact ⟨c1, c2, c3, c5, c6, c7, c8, c9, c10, c11⟩
/-! dark -/
theorem hdM_v (o : Nat) (G : gm_M) : ∀ j k f, j ≤ 5 → iter (hdM o) j G k f 0 = if k = 6 ∧ f < j then G 6 f 0 + (40 * G 0 7 0 - 40 * nI o) else G k f 0
  | 0, k, f, _ => by rw [if_neg (by omega)]; rfl
  | j + 1, k, f, hj => by
    rw [iter_s]
    simp only [hdM]
    by_cases h : k = 6 ∧ f = j
    · obtain ⟨rfl, rfl⟩ := h
      rw [gm_us, hdM_v o G f 6 f (by omega), hdM_v o G f 0 7 (by omega), if_neg (by omega), if_neg (by omega), if_pos (by omega)]
    · rw [gm_unA (by omega), hdM_v o G j k f (by omega)]
      by_cases h2 : k = 6 ∧ f < j
      · rw [if_pos h2, if_pos (by omega)]
      · rw [if_neg h2, if_neg (by omega)]
theorem i_hd (x a h o k : Int32) : ((x + 40 * o) + (h + (40 * a - 40 * o))) - k = ((x + 40 * a) + h) - k := by
  generalize 40 * o = p
  generalize 40 * a = r
  congr 1
  rw [Int32.sub_eq_add_neg, Int32.add_assoc, Int32.add_assoc]
  congr 1
  rw [Int32.add_comm h, Int32.add_assoc r, ← Int32.add_assoc p, Int32.add_comm p r, Int32.add_assoc r]
  congr 1
  rw [← Int32.add_assoc, Int32.add_comm p, Int32.add_left_neg, Int32.zero_add]
theorem sim_dark {M G : gm_M} (h : RR M G) {o : Nat} (ho : M 2 6 0 = nI o) (ho1 : o ≤ 1) : RR (dkF M (1 - o)) (dkM G (1 - o)) := by
  have h4 := h.2.2.2.1
  have h4' := h4
  simp only [RS] at h4
  obtain ⟨c1, c2, c3, c4, c5, c6, c7, c8, c9, c10, c11⟩ := h4
  have hc : M 4 (1 - o) 0 = G 9 (1 - o) 0 := by rcases (show 1 - o = 0 ∨ 1 - o = 1 by omega) with e | e <;> rw [e] <;> assumption
  have e3 : (M 2 7 0 + 1 < 3) ↔ (G 0 9 0 + 1 ≤ 2) := by rw [c3]; exact (i_lt1 _ 2 (by decide)).symm
  have hone : RR (gm_up M 2 7 0 (M 2 7 0 + 1)) (gm_up G 0 9 0 (G 0 9 0 + 1)) := by
    refine h.scal (fun k f m h1 h2 => by rw [gm_unA (by omega)]) (fun k f h1 h2 => by rw [gm_unA (by omega)]) ?_
    simp only [RS, gm_uA]
    simp
    exact ⟨c1, c2, by rw [c3], c4, c5, c6, c7, c8, c9, c10, c11⟩
  unfold dkF dkM
  by_cases d1 : G 0 9 0 + 1 ≤ 2
  · rw [if_pos d1, if_pos (e3.mpr d1)]
    exact hone
  · rw [if_neg d1, if_neg (fun z => d1 (e3.mp z)), hc]
    by_cases d2 : G 9 (1 - o) 0 = 0
    · rw [if_pos d2, if_pos d2]
      obtain ⟨h1, h2, h3, h4, d, a, q, num, h5⟩ := hone
      have hV : ∀ k f, ¬ (k = 0 ∧ (f = 7 ∨ f = 9)) → gm_up (gm_up (iter (hdM (1 - o)) 5 (gm_up G 0 9 0 (G 0 9 0 + 1))) 0 7 0 (nI (1 - o))) 0 9 0 0 k f 0 = if k = 6 ∧ f < 5 then G 6 f 0 + (40 * G 0 7 0 - 40 * nI (1 - o)) else G k f 0 := fun k f hk => by
        rw [gm_unA (by omega), gm_unA (by omega), hdM_v _ _ 5 k f (Nat.le_refl 5)]
        rw [gm_un1 (show (6 : Nat) ≠ 0 by decide), gm_un2 (show (7 : Nat) ≠ 9 by decide)]
        by_cases hz : k = 6 ∧ f < 5
        · rw [if_pos hz, if_pos hz]
        · rw [if_neg hz, if_neg hz, gm_unA (by omega)]
      have h7 : gm_up (gm_up (iter (hdM (1 - o)) 5 (gm_up G 0 9 0 (G 0 9 0 + 1))) 0 7 0 (nI (1 - o))) 0 9 0 0 0 7 0 = nI (1 - o) := by rw [gm_un2 (by decide), gm_us]
      have h9 : gm_up (gm_up (iter (hdM (1 - o)) 5 (gm_up G 0 9 0 (G 0 9 0 + 1))) 0 7 0 (nI (1 - o))) 0 9 0 0 0 9 0 = 0 := by rw [gm_us]
      generalize gm_up (gm_up (iter (hdM (1 - o)) 5 (gm_up G 0 9 0 (G 0 9 0 + 1))) 0 7 0 (nI (1 - o))) 0 9 0 0 = G' at hV h7 h9 ⊢
      have hW : ∀ k f, ¬ (k = 0 ∧ (f = 7 ∨ f = 9)) → k ≠ 6 → G' k f 0 = gm_up G 0 9 0 (G 0 9 0 + 1) k f 0 := fun k f hk h6 => by rw [hV k f hk, if_neg (by omega), gm_unA (by omega)]
      have hM : ∀ k f m, ¬ (k = 2 ∧ (f = 6 ∨ f = 7)) → gm_up (gm_up (gm_up M 2 7 0 (M 2 7 0 + 1)) 2 6 0 (nI (1 - o))) 2 7 0 0 k f m = gm_up M 2 7 0 (M 2 7 0 + 1) k f m := fun k f m hk => by rw [gm_unA (by omega), gm_unA (by omega)]
      refine ⟨fun u hu => ?_, fun c hc => (h2 c hc).congr (fun f _ _ => hM 0 f c (by omega)) (fun k hk _ _ => hW k c (by omega) (by omega)) (by rw [hW 2 (c / 2) (by omega) (by omega)]), h3.congr (fun c hc => ⟨hM 0 4 c (by omega), hM 0 5 c (by omega)⟩), ?_, d, a, q, num, h5.congr (fun c hc => ⟨hM 0 2 c (by omega), hM 0 3 c (by omega)⟩) (fun k c => ⟨hM 10 k c (by omega), hM 11 k c (by omega)⟩) ⟨hM 2 10 0 (by omega), hM 2 11 0 (by omega)⟩ (fun k => hM 5 k 0 (by omega)) (fun k i hk => hW k i (by omega) (by omega)) ⟨hW 0 28 (by omega) (by omega), hW 0 31 (by omega) (by omega)⟩⟩
      · obtain ⟨a1, a2, a3, a4⟩ := h1 u hu
        have hGu : ∀ k, 2 ≤ k → k ≠ 6 → G' k u 0 = gm_up G 0 9 0 (G 0 9 0 + 1) k u 0 := fun k hk h6 => hW k u (by omega) h6
        have hMu : ∀ f, gm_up (gm_up (gm_up M 2 7 0 (M 2 7 0 + 1)) 2 6 0 (nI (1 - o))) 2 7 0 0 1 f u = gm_up M 2 7 0 (M 2 7 0 + 1) 1 f u := fun f => hM 1 f u (by omega)
        refine ⟨by rw [hMu, hGu 2 (by omega) (by omega)]; exact a1, by rw [hGu 2 (by omega) (by omega)]; exact a2, fun z => ?_, fun z => ?_⟩
        · rw [hGu 2 (by omega) (by omega)] at z
          have := a3 z
          simp only [RU0] at this ⊢
          simp only [hMu]
          exact this
        · rw [hGu 2 (by omega) (by omega)] at z
          obtain ⟨z2, z3, z4, z6, z9, z10, z12, z13, z14, z11, zk, v, w, y1, y2, y3, y4, y5, y6⟩ := a4 z
          refine ⟨?_, ?_, ?_, ?_, ?_, ?_, ?_, ?_, ?_, ?_, zk.congr (hMu 7) (hMu 8) (hGu 14 (by omega) (by omega)), v, w, by rw [hMu]; exact y1, y2, y3, y4, ?_, ?_⟩
          · rw [hMu, hGu 3 (by omega) (by omega)]; exact z2
          · rw [hMu, hGu 4 (by omega) (by omega)]; exact z3
          · rw [hMu, hGu 5 (by omega) (by omega)]; exact z4
          · rw [hMu, hGu 13 (by omega) (by omega)]; exact z6
          · rw [hMu, hGu 15 (by omega) (by omega)]; exact z9
          · rw [hMu, hGu 16 (by omega) (by omega)]; exact z10
          · rw [hMu, hGu 18 (by omega) (by omega)]; exact z12
          · rw [hMu, hGu 19 (by omega) (by omega)]; exact z13
          · rw [hMu, hGu 7 (by omega) (by omega)]; exact z14
          · rw [hMu, hGu 16 (by omega) (by omega), hGu 17 (by omega) (by omega)]; exact z11
          · rw [hMu, hGu 2 (by omega) (by omega)]; exact y5
          · rw [hMu, hGu 2 (by omega) (by omega)]
            intro z2
            refine ⟨(y6 z2).1, ?_⟩
            rw [(y6 z2).2, erM, erM, h7, hGu 4 (by omega) (by omega), hV 6 u (by omega), if_pos ⟨rfl, hu⟩, i_hd, gm_un1 (show (4 : Nat) ≠ 0 by decide), gm_un1 (show (6 : Nat) ≠ 0 by decide), gm_un2 (show (7 : Nat) ≠ 9 by decide)]
      · have d1 := hW 0 10 (by omega) (by omega)
        have d2 := hW 0 11 (by omega) (by omega)
        have d3 := hW 0 35 (by omega) (by omega)
        have d4 := hW 0 36 (by omega) (by omega)
        have d5 := hW 0 37 (by omega) (by omega)
        have d6 := hW 0 38 (by omega) (by omega)
        have d7 := hW 9 0 (by omega) (by omega)
        have d8 := hW 9 1 (by omega) (by omega)
        simp only [RS, h7, h9, d1, d2, d3, d4, d5, d6, d7, d8]
        simp [gm_uA]
        refine ⟨?_, c4, c5, c6, c7, c8, c9, c10, c11⟩
        rcases (show 1 - o = 0 ∨ 1 - o = 1 by omega) with e | e <;> rw [e] <;> decide
    · rw [if_neg d2, if_neg d2]
      exact hone
/-! errors -/
theorem nI_diff {v w : Nat} (hv : v ≤ 600) (hw : w ≤ 1000) : (nI v - nI w).toInt = (v : Int) - w := pk_sub_toInt (by omega) (by omega)
theorem abs_le {e : Int32} {n k : Nat} (he1 : -10000 ≤ e.toInt) (he2 : e.toInt ≤ 10000) (hn : n ≤ 100) (hk : (nI n : Int32) = nI n) : absF e ≤ nI n ↔ (-(n : Int) ≤ e.toInt ∧ e.toInt ≤ n) := by
  unfold absF
  rw [Int32.le_iff_toInt_le, nI_toInt (by omega)]
  by_cases h : 0 ≤ e
  · rw [if_pos h]
    rw [Int32.le_iff_toInt_le] at h
    simp at h
    omega
  · rw [if_neg h]
    rw [Int32.le_iff_toInt_le] at h
    simp at h
    have : (0 - e).toInt = - e.toInt := by
      rw [Int32.toInt_sub]
      simp [Int.bmod_def]
      omega
    rw [this]
    omega
theorem RU.e0 {M G : gm_M} {u : Nat} (h : RU M G u) (hs : ¬ G 2 u 0 = 2) : M 1 5 u = 0 := by
  obtain ⟨a1, a2, a3, a4⟩ := h
  rcases a2 with e | e | e
  · exact (a3 e).2.2.2.1
  · obtain ⟨-, -, -, -, -, -, -, -, -, -, -, v, w, -, -, -, -, y5, -⟩ := a4 (by rw [e]; decide)
    exact y5 e
  · exact absurd e hs
theorem i_lv (x a k : Int32) : ((x + 40 * a) + ((k - x) - 40 * a)) - k = 0 := by
  generalize 40 * a = r
  have e : (x + r) + ((k - x) - r) = k := by
    rw [Int32.sub_eq_add_neg, Int32.sub_eq_add_neg, Int32.add_comm x r, Int32.add_comm k, Int32.add_assoc (-x), Int32.add_assoc r, ← Int32.add_assoc x, Int32.add_comm x (-x), Int32.add_left_neg, Int32.zero_add, Int32.add_comm k, ← Int32.add_assoc, Int32.add_comm r, Int32.add_left_neg, Int32.zero_add]
  rw [e, Int32.sub_self]
theorem sim_watch {M G : gm_M} (h : RR M G) {u : Nat} (hu : u < 5) : RR (we2 u M) (lk2 u G) := by
  obtain ⟨a1, a2, a3, a4⟩ := h.1 u hu
  by_cases hs : G 2 u 0 = 2
  · have h0 : ¬ G 2 u 0 = 0 := by rw [hs]; decide
    obtain ⟨z2, z3, z4, z6, z9, z10, z12, z13, z14, z11, zk, v, w, y1, y2, y3, y4, y5, y6⟩ := a4 h0
    obtain ⟨y7, y8⟩ := y6 hs
    have hT : (M 1 5 u).toInt = (v : Int) - w := by rw [y7]; exact nI_diff y3 y4
    have hE : (erM G u).toInt = (v : Int) - w := by rw [← y8]; exact hT
    have k8 : absF (M 1 5 u) ≤ 8 ↔ (-8 ≤ (M 1 5 u).toInt ∧ (M 1 5 u).toInt ≤ 8) := abs_le (n := 8) (k := 0) (by omega) (by omega) (by omega) rfl
    have k4 : absF (M 1 5 u) ≤ 4 ↔ (-4 ≤ (M 1 5 u).toInt ∧ (M 1 5 u).toInt ≤ 4) := abs_le (n := 4) (k := 0) (by omega) (by omega) (by omega) rfl
    have m8 : (8 < erM G u ∨ ¬ -8 ≤ erM G u) ↔ ¬ (-8 ≤ (M 1 5 u).toInt ∧ (M 1 5 u).toInt ≤ 8) := by
      rw [Int32.lt_iff_toInt_lt, Int32.le_iff_toInt_le, hE, hT, show (8 : Int32).toInt = 8 from rfl, show (-8 : Int32).toInt = -8 from rfl]
      omega
    have m4 : (4 < erM G u ∨ ¬ -4 ≤ erM G u) ↔ ¬ (-4 ≤ (M 1 5 u).toInt ∧ (M 1 5 u).toInt ≤ 4) := by
      rw [Int32.lt_iff_toInt_lt, Int32.le_iff_toInt_le, hE, hT, show (4 : Int32).toInt = 4 from rfl, show (-4 : Int32).toInt = -4 from rfl]
      omega
    rw [show lk2 u G = lkM G u from if_pos hs]
    unfold lkM we2 we1
    by_cases p4 : -4 ≤ (M 1 5 u).toInt ∧ (M 1 5 u).toInt ≤ 4
    · rw [if_pos (k4.mpr p4), if_pos (k8.mpr (by omega)), tM_f (fun z => m8.mp z (by omega)), tM_f (fun z => m4.mp z p4)]
      exact h
    · rw [if_neg (fun z => p4 (k4.mp z))]
      by_cases p8 : -8 ≤ (M 1 5 u).toInt ∧ (M 1 5 u).toInt ≤ 8
      · rw [if_pos (k8.mpr p8), tM_f (fun z => m8.mp z p8), tM_t (m4.mpr p4)]
        refine h.unit u (fun k f m hk => by rw [gm_unA (by omega)]) (fun k f hk hk0 => by rw [lvM, gm_unA (by omega)]) ?_ (by rw [lvM, gm_un1 (by decide)])
        have hg : ∀ k, k ≠ 6 → lvM G u k u 0 = G k u 0 := fun k hk => by rw [lvM, gm_un1 hk]
        have hm : ∀ f, f ≠ 5 → gm_up M 1 5 u 0 1 f u = M 1 f u := fun f hf => by rw [gm_un2 hf]
        refine ⟨by rw [hm 1 (by decide), hg 2 (by decide)]; exact a1, by rw [hg 2 (by decide)]; exact a2, fun z => absurd (by rw [← hg 2 (by decide)]; exact z) h0, fun _ => ⟨by rw [hm 2 (by decide), hg 3 (by decide)]; exact z2, by rw [hm 3 (by decide), hg 4 (by decide)]; exact z3, by rw [hm 4 (by decide), hg 5 (by decide)]; exact z4, by rw [hm 6 (by decide), hg 13 (by decide)]; exact z6, by rw [hm 9 (by decide), hg 15 (by decide)]; exact z9, by rw [hm 10 (by decide), hg 16 (by decide)]; exact z10, by rw [hm 12 (by decide), hg 18 (by decide)]; exact z12, by rw [hm 13 (by decide), hg 19 (by decide)]; exact z13, by rw [hm 14 (by decide), hg 7 (by decide)]; exact z14, by rw [hm 11 (by decide), hg 16 (by decide), hg 17 (by decide)]; exact z11, zk.congr (hm 7 (by decide)) (hm 8 (by decide)) (hg 14 (by decide)), v, v, by rw [hm 3 (by decide)]; exact y1, y2, y3, by omega, fun _ => gm_us, fun _ => ⟨by rw [gm_us, Int32.sub_self], ?_⟩⟩⟩
        rw [gm_us, erM, hg 4 (by decide), show lvM G u 0 7 0 = G 0 7 0 from gm_un1 (by decide), show lvM G u 6 u 0 = _ from gm_us]
        exact (i_lv _ _ _).symm
      · rw [if_neg (fun z => p8 (k8.mp z)), tM_t (m8.mpr p8)]
        have hs1 := h.2.2.2.1
        refine h.unitS u (fun k f m hk hk2 => by rw [gm_unA (by omega), gm_unA (by omega), gm_unA (by omega), gm_unA (by omega)]) (fun k f hk hk0 => by rw [gm_unA (by omega), gm_unA (by omega), gm_unA (by omega)]) ?_ ?_ ?_
        · have S9 : ∀ (f : Nat), f ≠ 1 → f ≠ 4 → f ≠ 5 → gm_up (gm_up (gm_up (gm_up M 1 1 u 1) 1 4 u 0) 2 15 0 (M 2 15 0 + 1)) 1 5 u 0 1 f u = M 1 f u := fun f f1 f4 f5 => by rw [gm_un2 f5, gm_un1 (by decide), gm_un2 f4, gm_un2 f1]
          have T9 : ∀ (k : Nat), k ≠ 2 → k ≠ 5 → k ≠ 0 → gm_up (gm_up (gm_up G 2 u 0 1) 5 u 0 0) 0 38 0 (G 0 38 0 + 1) k u 0 = G k u 0 := fun k k2 k5 k0 => by rw [gm_un1 k0, gm_un1 k5, gm_un1 k2]
          have T2 : gm_up (gm_up (gm_up G 2 u 0 1) 5 u 0 0) 0 38 0 (G 0 38 0 + 1) 2 u 0 = 1 := by rw [gm_un1 (by decide), gm_un1 (by decide), gm_us]
          refine ⟨by rw [T2, gm_un2 (by decide), gm_un1 (by decide), gm_un2 (by decide), gm_us], Or.inr (Or.inl T2), fun z => absurd (T2.symm.trans z) (by decide), fun _ => ⟨?_, ?_, ?_, ?_, ?_, ?_, ?_, ?_, ?_, ?_, zk.congr (S9 7 (by decide) (by decide) (by decide)) (S9 8 (by decide) (by decide) (by decide)) (T9 14 (by decide) (by decide) (by decide)), v, 0, by rw [S9 3 (by decide) (by decide) (by decide)]; exact y1, y2, y3, by omega, fun _ => gm_us, fun z => absurd (T2.symm.trans z) (by decide)⟩⟩
          · rw [S9 2 (by decide) (by decide) (by decide), T9 3 (by decide) (by decide) (by decide)]; exact z2
          · rw [S9 3 (by decide) (by decide) (by decide), T9 4 (by decide) (by decide) (by decide)]; exact z3
          · rw [gm_un2 (by decide), gm_un1 (by decide), gm_us, gm_un1 (by decide), gm_us]
          · rw [S9 6 (by decide) (by decide) (by decide), T9 13 (by decide) (by decide) (by decide)]; exact z6
          · rw [S9 9 (by decide) (by decide) (by decide), T9 15 (by decide) (by decide) (by decide)]; exact z9
          · rw [S9 10 (by decide) (by decide) (by decide), T9 16 (by decide) (by decide) (by decide)]; exact z10
          · rw [S9 12 (by decide) (by decide) (by decide), T9 18 (by decide) (by decide) (by decide)]; exact z12
          · rw [S9 13 (by decide) (by decide) (by decide), T9 19 (by decide) (by decide) (by decide)]; exact z13
          · rw [S9 14 (by decide) (by decide) (by decide), T9 7 (by decide) (by decide) (by decide)]; exact z14
          · rw [S9 11 (by decide) (by decide) (by decide), T9 16 (by decide) (by decide) (by decide), T9 17 (by decide) (by decide) (by decide)]; exact z11
        · rw [gm_un1 (by decide), gm_un1 (by decide), gm_us, hs]; decide
        · simp only [RS] at hs1 ⊢
          obtain ⟨c1, c2, c3, c4, c5, c6, c7, c8, c9, c10, c11⟩ := hs1
          simp [gm_uA]
          exact ⟨c1, c2, c3, c4, c5, c6, c7, c8, by rw [c9], c10, c11⟩
  · have he := (h.1 u hu).e0 hs
    rw [show lk2 u G = G from if_neg hs]
    have e8 : absF (M 1 5 u) ≤ 8 := by rw [he]; decide
    have e4 : absF (M 1 5 u) ≤ 4 := by rw [he]; decide
    rw [show we2 u M = we1 u M from if_pos e4, show we1 u M = M from if_pos e8]
    exact h
