/-! ===== the calls but the frame: class and reference answer alike ===== -/
theorem gm_unA {M : gm_M} {k f n k' f' n' : Nat} {x : Int32} (h : ¬ (k' = k ∧ f' = f ∧ n' = n)) : gm_up M k f n x k' f' n' = M k' f' n' := if_neg h
def tO (th : Option String) (M' M : gm_M) : gm_M := match th with
  | none => M'
  | some _ => M
theorem tO_t {P : Prop} {E : String} {r : Option String} {A B : gm_M} (h : P) : tO (thF P E r) A B = B := by rw [thF_t h]; rfl
theorem tO_f {A B : gm_M} {th : Option String} (h : th = none) : tO th A B = A := by rw [h]; rfl
/-- only a unit's own ints have moved -/
theorem RR.unit {M G M' G' : gm_M} (h : RR M G) (n : Nat) (hM : ∀ k f m, ¬ (k = 1 ∧ m = n) → M' k f m = M k f m) (hG : ∀ k f, ¬ (f = n ∧ 2 ≤ k ∧ k ≤ 19 ∧ k ≠ 9) → ¬ (k = 0 ∧ f = 0) → G' k f 0 = G k f 0) (hU : RU M' G' n) (hs : G' 2 n 0 = 0 ↔ G 2 n 0 = 0) : RR M' G' := by
  obtain ⟨h1, h2, h3, h4, d, a, q, num, h5⟩ := h
  refine ⟨fun u hu => ?_, fun c hc => ?_, ?_, ?_, d, a, q, num, ?_⟩
  · by_cases e : u = n
    · rw [e]; exact hU
    · exact (h1 u hu).congr (fun f => hM 1 f u (by omega)) (fun k hk hk2 => hG k u (by omega) (by omega)) (hG 0 7 (by omega) (by omega))
  · refine (h2 c hc).congr (fun f _ _ => hM 0 f c (by omega)) (fun k hk _ _ => hG k c (by omega) (by omega)) ?_
    by_cases e : c / 2 = n
    · rw [e]; exact hs
    · rw [hG 2 (c / 2) (by omega) (by omega)]
  · exact h3.congr (fun c hc => ⟨hM 0 4 c (by omega), hM 0 5 c (by omega)⟩)
  · exact h4.congr (fun f _ _ _ _ => hM 2 f 0 (by omega)) (fun f hf => hG 0 f (by omega) (by omega)) (fun f => hM 4 f 0 (by omega)) (fun f => hG 9 f (by omega) (by omega))
  · exact h5.congr (fun c hc => ⟨hM 0 2 c (by omega), hM 0 3 c (by omega)⟩) (fun k c => ⟨hM 10 k c (by omega), hM 11 k c (by omega)⟩) ⟨hM 2 10 0 (by omega), hM 2 11 0 (by omega)⟩ (fun k => hM 5 k 0 (by omega)) (fun k i hk => hG k i (by omega) (by omega)) ⟨hG 0 28 (by omega) (by omega), hG 0 31 (by omega) (by omega)⟩
/-- a unit that isn't away -/
theorem RR.here {M G : gm_M} (h : RR M G) {u : Int32} (hw : ¬ wM G u) : uN u < 5 ∧ u = nI (uN u) ∧ ¬ G 2 (uN u) 0 = 0 ∧ M 1 1 (uN u) = G 2 (uN u) 0 ∧ (G 2 (uN u) 0 = 0 ∨ G 2 (uN u) 0 = 1 ∨ G 2 (uN u) 0 = 2) ∧ RU1 M G (uN u) := by
  have hb : ¬ bU u := fun q => hw (Or.inl q)
  obtain ⟨h1, h2⟩ := bU_ix hb
  have h3 : ¬ G 2 (uN u) 0 = 0 := fun q => hw (Or.inr q)
  obtain ⟨a1, a2, a3, a4⟩ := h.1 _ h2
  exact ⟨h2, h1, h3, a1, a2, a4 h3⟩
theorem sim_down {M G : gm_M} (h : RR M G) (u a : Int32) : cod1 (thF (aW M u) "java/lang/IllegalArgumentException" none) = tM (wM G u) (gm_up G 0 0 0 1) (gm_up (gm_up (gm_up G 0 0 0 0) 17 (uN u) 0 a) 16 (uN u) 0 1) 0 0 0
    ∧ RR (tO (thF (aW M u) "java/lang/IllegalArgumentException" none) (gm_up (gm_up M 1 10 (uN u) 1) 1 11 (uN u) a) M) (tM (wM G u) (gm_up G 0 0 0 1) (gm_up (gm_up (gm_up G 0 0 0 0) 17 (uN u) 0 a) 16 (uN u) 0 1)) := by
  rw [cod_t]
  by_cases hw : wM G u
  · rw [tM_t hw, tF_t ((h.away u).mpr hw), tO_t ((h.away u).mpr hw), gm_us]
    exact ⟨rfl, h.thrown 1⟩
  · have hw' := fun z => hw ((h.away u).mp z)
    rw [tM_f hw, tF_f hw', tO_f (thF_f hw')]
    refine ⟨by rw [gm_un1 (by decide), gm_un1 (by decide), gm_us], ?_⟩
    obtain ⟨hn, hu, h0, e1, e2, e3⟩ := h.here hw
    refine h.unit (uN u) (fun k f m hk => by rw [gm_unA (by omega), gm_unA (by omega)]) (fun k f hk hk0 => by rw [gm_unA (by omega), gm_unA (by omega), gm_unA (by omega)]) ?_ (by rw [gm_un1 (by decide), gm_un1 (by decide), gm_un1 (by decide)])
    obtain ⟨z2, z3, z4, z6, z9, z10, z12, z13, z14, z11, zk, ze⟩ := e3
    exact ⟨by simpa [gm_uA] using e1, by simpa [gm_uA] using e2, fun z => absurd (by simpa [gm_uA] using z) h0, fun _ => ⟨by simpa [gm_uA] using z2, by simpa [gm_uA] using z3, by simpa [gm_uA] using z4, by simpa [gm_uA] using z6, by simpa [gm_uA] using z9, by simp [gm_uA], by simpa [gm_uA] using z12, by simpa [gm_uA] using z13, by simpa [gm_uA] using z14, by simp [gm_uA], zk.congr (by simp [gm_uA]) (by simp [gm_uA]) (by simp [gm_uA]), ze.congr (by simp [gm_uA]) (by simp [gm_uA]) (by simp [gm_uA]) (by simp [gm_uA]) (by simp [gm_uA]) (by simp [gm_uA])⟩⟩
theorem sim_spoil {M G : gm_M} (h : RR M G) (u : Int32) : cod1 (thF (aW M u) "java/lang/IllegalArgumentException" none) = tM (wM G u) (gm_up G 0 0 0 1) (gm_up (gm_up G 0 0 0 0) 7 (uN u) 0 1) 0 0 0
    ∧ RR (tO (thF (aW M u) "java/lang/IllegalArgumentException" none) (gm_up M 1 14 (uN u) 1) M) (tM (wM G u) (gm_up G 0 0 0 1) (gm_up (gm_up G 0 0 0 0) 7 (uN u) 0 1)) := by
  rw [cod_t]
  by_cases hw : wM G u
  · rw [tM_t hw, tF_t ((h.away u).mpr hw), tO_t ((h.away u).mpr hw), gm_us]
    exact ⟨rfl, h.thrown 1⟩
  · have hw' := fun z => hw ((h.away u).mp z)
    rw [tM_f hw, tF_f hw', tO_f (thF_f hw')]
    refine ⟨by rw [gm_un1 (by decide), gm_us], ?_⟩
    obtain ⟨hn, hu, h0, e1, e2, e3⟩ := h.here hw
    refine h.unit (uN u) (fun k f m hk => by rw [gm_unA (by omega)]) (fun k f hk hk0 => by rw [gm_unA (by omega), gm_unA (by omega)]) ?_ (by rw [gm_un1 (by decide), gm_un1 (by decide)])
    obtain ⟨z2, z3, z4, z6, z9, z10, z12, z13, z14, z11, zk, ze⟩ := e3
    exact ⟨by simpa [gm_uA] using e1, by simpa [gm_uA] using e2, fun z => absurd (by simpa [gm_uA] using z) h0, fun _ => ⟨by simpa [gm_uA] using z2, by simpa [gm_uA] using z3, by simpa [gm_uA] using z4, by simpa [gm_uA] using z6, by simpa [gm_uA] using z9, by simpa [gm_uA] using z10, by simpa [gm_uA] using z12, by simpa [gm_uA] using z13, by simp [gm_uA], by simpa [gm_uA] using z11, zk.congr (by simp [gm_uA]) (by simp [gm_uA]) (by simp [gm_uA]), ze.congr (by simp [gm_uA]) (by simp [gm_uA]) (by simp [gm_uA]) (by simp [gm_uA]) (by simp [gm_uA]) (by simp [gm_uA])⟩⟩
theorem sim_key {M G : gm_M} (h : RR M G) (u a : Int32) : cod1 (thF (aW M u ∨ a < 0 ∨ ¬ a ≤ 99) "java/lang/IllegalArgumentException" (thF (¬ M 1 7 (uN u) = 0) "java/lang/IllegalStateException" none)) = tM ((wM G u ∨ a < 0 ∨ ¬ a ≤ 99) ∨ (¬ G 14 (uN u) 0 < 0)) (gm_up G 0 0 0 (cdF (wM G u ∨ a < 0 ∨ ¬ a ≤ 99) (¬ G 14 (uN u) 0 < 0))) (gm_up (gm_up G 0 0 0 0) 14 (uN u) 0 a) 0 0 0
    ∧ RR (tO (thF (aW M u ∨ a < 0 ∨ ¬ a ≤ 99) "java/lang/IllegalArgumentException" (thF (¬ M 1 7 (uN u) = 0) "java/lang/IllegalStateException" none)) (gm_up (gm_up M 1 7 (uN u) 1) 1 8 (uN u) a) M) (tM ((wM G u ∨ a < 0 ∨ ¬ a ≤ 99) ∨ (¬ G 14 (uN u) 0 < 0)) (gm_up G 0 0 0 (cdF (wM G u ∨ a < 0 ∨ ¬ a ≤ 99) (¬ G 14 (uN u) 0 < 0))) (gm_up (gm_up G 0 0 0 0) 14 (uN u) 0 a)) := by
  rw [cod_cd]
  have hP : (aW M u ∨ a < 0 ∨ ¬ a ≤ 99) ↔ (wM G u ∨ a < 0 ∨ ¬ a ≤ 99) := or_congr (h.away u) Iff.rfl
  have hQ : ¬ (aW M u ∨ a < 0 ∨ ¬ a ≤ 99) → ((¬ M 1 7 (uN u) = 0) ↔ (¬ G 14 (uN u) 0 < 0)) := by
    intro hb
    have hw : ¬ wM G u := fun z => hb (hP.mpr (Or.inl z))
    obtain ⟨hn, hu, h0, e1, e2, e3⟩ := h.here hw
    obtain ⟨-, -, -, -, -, -, -, -, -, -, hk, -⟩ := e3
    rcases hk with ⟨p, q⟩ | ⟨p, q, r⟩
    · rw [p, q]; decide
    · rw [p]; exact ⟨fun _ => r, fun _ => by decide⟩
  rw [cdF_congr hP hQ]
  by_cases hb : (wM G u ∨ a < 0 ∨ ¬ a ≤ 99) ∨ (¬ G 14 (uN u) 0 < 0)
  · rw [tM_t hb, gm_us]
    refine ⟨rfl, ?_⟩
    have : tO (thF (aW M u ∨ a < 0 ∨ ¬ a ≤ 99) "java/lang/IllegalArgumentException" (thF (¬ M 1 7 (uN u) = 0) "java/lang/IllegalStateException" none)) (gm_up (gm_up M 1 7 (uN u) 1) 1 8 (uN u) a) M = M := by
      by_cases p : aW M u ∨ a < 0 ∨ ¬ a ≤ 99
      · exact tO_t p
      · rw [thF_f p]
        exact tO_t ((hQ p).mpr (hb.resolve_left (fun z => p (hP.mpr z))))
    rw [this]
    exact h.thrown _
  · have hb1 : ¬ (wM G u ∨ a < 0 ∨ ¬ a ≤ 99) := fun z => hb (Or.inl z)
    have hb2 : ¬ ¬ G 14 (uN u) 0 < 0 := fun z => hb (Or.inr z)
    have hb1' := fun z => hb1 (hP.mp z)
    rw [tM_f hb, cdF_0 hb1 hb2, tO_f ((thF_f hb1').trans (thF_f (fun z => hb2 ((hQ hb1').mp z))))]
    refine ⟨by rw [gm_un1 (by decide), gm_us], ?_⟩
    obtain ⟨hn, hu, h0, e1, e2, e3⟩ := h.here (fun z => hb1 (Or.inl z))
    have ha : ¬ a < 0 := fun z => hb1 (Or.inr (Or.inl z))
    refine h.unit (uN u) (fun k f m hk => by rw [gm_unA (by omega), gm_unA (by omega)]) (fun k f hk hk0 => by rw [gm_unA (by omega), gm_unA (by omega)]) ?_ (by rw [gm_un1 (by decide), gm_un1 (by decide)])
    obtain ⟨z2, z3, z4, z6, z9, z10, z12, z13, z14, z11, zk, ze⟩ := e3
    exact ⟨by simpa [gm_uA] using e1, by simpa [gm_uA] using e2, fun z => absurd (by simpa [gm_uA] using z) h0, fun _ => ⟨by simpa [gm_uA] using z2, by simpa [gm_uA] using z3, by simpa [gm_uA] using z4, by simpa [gm_uA] using z6, by simpa [gm_uA] using z9, by simpa [gm_uA] using z10, by simpa [gm_uA] using z12, by simpa [gm_uA] using z13, by simpa [gm_uA] using z14, by simpa [gm_uA] using z11, Or.inr ⟨by simp [gm_uA], by simp [gm_uA], by simp [gm_uA]; exact i_le.mpr ha⟩, ze.congr (by simp [gm_uA]) (by simp [gm_uA]) (by simp [gm_uA]) (by simp [gm_uA]) (by simp [gm_uA]) (by simp [gm_uA])⟩⟩
theorem sim_discover {M G : gm_M} (h : RR M G) : RR (gm_up M 2 8 0 1) (gm_up (gm_up G 0 0 0 0) 0 10 0 1) := by
  have h' := h.thrown 0
  obtain ⟨h1, h2, h3, h4, d, a, q, num, h5⟩ := h'
  refine ⟨fun u hu => (h1 u hu).congr (fun f => gm_un1 (by decide)) (fun k hk _ => gm_un1 (by omega)) (gm_un2 (by decide)), fun c hc => (h2 c hc).congr (fun f _ _ => gm_un1 (by decide)) (fun k hk _ _ => gm_un1 (by omega)) (by rw [gm_un1 (by decide)]), h3.congr (fun c hc => ⟨gm_un1 (by decide), gm_un1 (by decide)⟩), ?_, d, a, q, num, h5.congr (fun _ _ => ⟨gm_un1 (by decide), gm_un1 (by decide)⟩) (fun _ _ => ⟨gm_un1 (by decide), gm_un1 (by decide)⟩) ⟨gm_un2 (by decide), gm_un2 (by decide)⟩ (fun _ => gm_un1 (by decide)) (fun k i hk => gm_un1 (by omega)) ⟨gm_un2 (by decide), gm_un2 (by decide)⟩⟩
  simp only [RS] at h4 ⊢
  simp [gm_uA] at h4 ⊢
  grind
theorem sim_feeder {M G : gm_M} (h : RR M G) (f z : Int32) : cod1 (thF (bC f) "java/lang/IllegalArgumentException" none) = tM (bC f) (gm_up G 0 0 0 1) (gm_up (gm_up G 0 0 0 0) 9 (uN f) 0 (vp_nar .boolean z)) 0 0 0
    ∧ RR (tO (thF (bC f) "java/lang/IllegalArgumentException" none) (gm_up M 4 (uN f) 0 (vp_nar .boolean z)) M) (tM (bC f) (gm_up G 0 0 0 1) (gm_up (gm_up G 0 0 0 0) 9 (uN f) 0 (vp_nar .boolean z))) := by
  rw [cod_t]
  by_cases hw : bC f
  · rw [tM_t hw, tF_t hw, tO_t hw, gm_us]
    exact ⟨rfl, h.thrown 1⟩
  · rw [tM_f hw, tF_f hw, tO_f (thF_f hw)]
    refine ⟨by rw [gm_un1 (by decide), gm_us], ?_⟩
    obtain ⟨hf, hf2⟩ := bC_ix hw
    have h' := h.thrown 0
    obtain ⟨h1, h2, h3, h4, d, a, q, num, h5⟩ := h'
    refine ⟨fun u hu => ?_, fun c hc => (h2 c hc).congr (fun f _ _ => gm_un1 (by decide)) (fun k hk _ _ => gm_un1 (by omega)) (by rw [gm_un1 (by decide)]), h3.congr (fun c hc => ⟨gm_un1 (by decide), gm_un1 (by decide)⟩), ?_, d, a, q, num, h5.congr (fun _ _ => ⟨gm_un1 (by decide), gm_un1 (by decide)⟩) (fun _ _ => ⟨gm_un1 (by decide), gm_un1 (by decide)⟩) ⟨gm_un1 (by decide), gm_un1 (by decide)⟩ (fun _ => gm_un1 (by decide)) (fun k i hk => gm_un1 (by omega)) ⟨gm_un1 (by decide), gm_un1 (by decide)⟩⟩
    · have h6 := h1 u hu
      simp only [RU, RU0, RU1, RK, RE, erM] at h6 ⊢
      simpa [gm_uA] using h6
    · simp only [RS] at h4 ⊢
      rcases (show uN f = 0 ∨ uN f = 1 by omega) with e | e <;> rw [e] <;> simp [gm_uA] at h4 ⊢ <;> grind
theorem i_le2 (a : Int32) (n : Nat) (hn : n + 1 < 2 ^ 31) : ¬ a ≤ nI n ↔ nI n < a := by rw [i_le]; exact Decidable.not_not
theorem tabBad (y : Int32) (n : Nat) (hn : n < 2 ^ 31) : (y.toInt < 0 ∨ (n : Int) < y.toInt) ↔ (y < 0 ∨ ¬ y ≤ nI n) := by
  rw [Int32.lt_iff_toInt_lt, Int32.le_iff_toInt_le, nI_toInt hn, show (0 : Int32).toInt = 0 from rfl]
  omega
theorem sim_count {M G : gm_M} (h : RR M G) (y : Int32) : cod1 (thF (y.toInt < 0 ∨ (6 : Int) < y.toInt) "java/lang/IllegalArgumentException" none) = gm_up G 0 0 0 (tF (y < 0 ∨ ¬ y ≤ 6)) 0 0 0
    ∧ (thF (y.toInt < 0 ∨ (6 : Int) < y.toInt) "java/lang/IllegalArgumentException" none = none → coF M y = coM G y) ∧ RR (tO (thF (y.toInt < 0 ∨ (6 : Int) < y.toInt) "java/lang/IllegalArgumentException" none) M M) (gm_up G 0 0 0 (tF (y < 0 ∨ ¬ y ≤ 6))) := by
  rw [cod_t, gm_us]
  have e := tabBad y 6 (by decide)
  refine ⟨tF_congr e, fun hn => ?_, ?_⟩
  · have hb := thF_none hn
    rw [show ((6 : Int)) = ((6 : Nat) : Int) from rfl, e] at hb
    obtain ⟨h1, h2, h3, h4, d, a, q, num, h5⟩ := h
    have h0 : ¬ y < 0 := fun z => hb (Or.inl z)
    have h6 : y ≤ nI 6 := Classical.byContradiction (fun z => hb (Or.inr z))
    obtain ⟨j, hj, rfl⟩ := nI_of2 (n := 6) (M := 6) rfl h0 h6
    obtain ⟨-, -, -, -, -, -, -, -, b9, b10, -, -⟩ := h5
    simp only [RS] at h4
    obtain ⟨c1, -, -, -, c2, c3, c4, c5, c6, -, -⟩ := h4
    rcases (show j = 0 ∨ j = 1 ∨ j = 2 ∨ j = 3 ∨ j = 4 ∨ j = 5 ∨ j = 6 by omega) with rfl | rfl | rfl | rfl | rfl | rfl | rfl
    · exact b9.trans b10.symm
    · exact c3
    · exact c2
    · exact c1
    · exact c4
    · exact c5
    · exact c6
  · by_cases p : y.toInt < 0 ∨ (6 : Int) < y.toInt
    · rw [tO_t p]; exact h.thrown _
    · rw [tO_f (thF_f p)]; exact h.thrown _
theorem sim_unit {M G : gm_M} (h : RR M G) (u y : Int32) : cod1 (thF (bU u ∨ (y.toInt < 0 ∨ (6 : Int) < y.toInt)) "java/lang/IllegalArgumentException" none) = gm_up G 0 0 0 (tF (bU u ∨ y < 0 ∨ ¬ y ≤ 6)) 0 0 0
    ∧ (thF (bU u ∨ (y.toInt < 0 ∨ (6 : Int) < y.toInt)) "java/lang/IllegalArgumentException" none = none → unF M (uN u) y = sdR ((bU u ∨ y < 0 ∨ ¬ y ≤ 6) ∨ G 2 (uN u) 0 = 0) (unM G (uN u) y)) ∧ RR (tO (thF (bU u ∨ (y.toInt < 0 ∨ (6 : Int) < y.toInt)) "java/lang/IllegalArgumentException" none) M M) (gm_up G 0 0 0 (tF (bU u ∨ y < 0 ∨ ¬ y ≤ 6))) := by
  rw [cod_t, gm_us]
  have e := tabBad y 6 (by decide)
  refine ⟨tF_congr (or_congr Iff.rfl e), fun hn => ?_, ?_⟩
  · have hb := thF_none hn
    have hb1 : ¬ bU u := fun z => hb (Or.inl z)
    have hb2 : ¬ (y < 0 ∨ ¬ y ≤ nI 6) := fun z => hb (Or.inr (e.mpr z))
    have h0 : ¬ y < 0 := fun z => hb2 (Or.inl z)
    have h6 : y ≤ nI 6 := Classical.byContradiction (fun z => hb2 (Or.inr z))
    obtain ⟨hu, hu5⟩ := bU_ix hb1
    obtain ⟨j, hj, rfl⟩ := nI_of2 (n := 6) (M := 6) rfl h0 h6
    obtain ⟨a1, a2, a3, a4⟩ := h.1 _ hu5
    by_cases hs : G 2 (uN u) 0 = 0
    · rw [sdR_t (Or.inr hs)]
      obtain ⟨z2, z3, z4, z5, z6, z7, z8, z9, z10, z11, z12, z13, z14⟩ := a3 hs
      rcases (show j = 0 ∨ j = 1 ∨ j = 2 ∨ j = 3 ∨ j = 4 ∨ j = 5 ∨ j = 6 by omega) with rfl | rfl | rfl | rfl | rfl | rfl | rfl
      · exact a1.trans hs
      · exact z5
      · exact z6
      · exact z9
      · exact z12
      · exact z13
      · exact z4
    · rw [sdR_f (fun z => z.elim (fun z => z.elim hb1 hb2) hs)]
      obtain ⟨z2, z3, z4, z6, z9, z10, z12, z13, z14, z11, zk, v, w, y1, y2, y3, y4, y5, y6⟩ := a4 hs
      rcases (show j = 0 ∨ j = 1 ∨ j = 2 ∨ j = 3 ∨ j = 4 ∨ j = 5 ∨ j = 6 by omega) with rfl | rfl | rfl | rfl | rfl | rfl | rfl
      · exact a1
      · show M 1 5 (uN u) = if G 2 (uN u) 0 = 2 then erM G (uN u) else 0
        by_cases h2 : G 2 (uN u) 0 = 2
        · rw [if_pos h2]; exact (y6 h2).2
        · rw [if_neg h2]; exact y5 ((a2.resolve_left hs).resolve_right h2)
      · exact z6
      · exact z9
      · exact z12
      · exact z13
      · exact z4
  · by_cases p : bU u ∨ (y.toInt < 0 ∨ (6 : Int) < y.toInt)
    · rw [tO_t p]; exact h.thrown _
    · rw [tO_f (thF_f p)]; exact h.thrown _
theorem sim_came {M G : gm_M} (h : RR M G) (k y : Int32) : cod2 (thF (k < 0 ∨ ¬ k < M 2 11 0) "java/lang/IndexOutOfBoundsException" (thF (y < 0 ∨ ¬ y < 4) "java/lang/IllegalArgumentException" none)) = gm_up G 0 0 0 (cdF (k < 0 ∨ ¬ k < G 0 31 0) (y < 0 ∨ ¬ y ≤ 3)) 0 0 0
    ∧ (thF (k < 0 ∨ ¬ k < M 2 11 0) "java/lang/IndexOutOfBoundsException" (thF (y < 0 ∨ ¬ y < 4) "java/lang/IllegalArgumentException" none) = none → M 5 (4 * uN k + uN y) 0 = sdR ((k < 0 ∨ ¬ k < G 0 31 0) ∨ (y < 0 ∨ ¬ y ≤ 3)) (cmM G (uN k) y)) ∧ RR M (gm_up G 0 0 0 (cdF (k < 0 ∨ ¬ k < G 0 31 0) (y < 0 ∨ ¬ y ≤ 3))) := by
  rw [cod_cd2, gm_us]
  obtain ⟨h1, h2, h3, h4, d, a, q, num, h5⟩ := h
  have h5' := h5
  obtain ⟨-, -, -, -, -, -, -, b8, b9, b10, b11, b12⟩ := h5'
  have e4 : (y < 0 ∨ ¬ y < 4) ↔ (y < 0 ∨ ¬ y ≤ 3) := or_congr Iff.rfl (not_congr (i_lt1 y 3 (by decide)).symm)
  rw [show M 2 11 0 = G 0 31 0 from b9.trans b10.symm]
  refine ⟨cdF_congr Iff.rfl (fun _ => e4), fun hn => ?_, RR.thrown ⟨h1, h2, h3, h4, d, a, q, num, h5⟩ _⟩
  have hb1 : ¬ (k < 0 ∨ ¬ k < G 0 31 0) := fun z => by rw [thF_t z] at hn; cases hn
  rw [thF_f hb1] at hn
  have hb2 := thF_none hn
  rw [sdR_f (fun z => z.elim hb1 (fun z => hb2 (e4.mpr z)))]
  obtain ⟨hk, hka⟩ := ixN (u := k) a (by omega) (fun z => hb1 (Or.inl z)) (by rw [← b10]; exact Classical.byContradiction (fun z => hb1 (Or.inr z)))
  obtain ⟨hy, hy4⟩ := ixN (u := y) 4 (by decide) (fun z => hb2 (Or.inl z)) (Classical.byContradiction (fun z => hb2 (Or.inr z)))
  obtain ⟨r1, ⟨c, hc, r2, r3, r4⟩, r5⟩ := b12 (uN k) hka
  generalize uN y = j at hy hy4
  subst hy
  rcases (show j = 0 ∨ j = 1 ∨ j = 2 ∨ j = 3 by omega) with rfl | rfl | rfl | rfl
  · exact r1
  · show _ = G 34 (uN k) 0 / 2
    rw [r2, r3]
    exact (half c (by omega)).symm
  · show _ = G 34 (uN k) 0 - G 34 (uN k) 0 / 2 * 2
    rw [r2, r4]
    exact (pk_rem (d := 2) (by omega) (by decide) (by decide)).symm
  · exact r5
