/-! ===== the frame (7): all of it ===== -/
theorem sim_loop {c : Nat} {sp : Int32} (hc : c < 10) : ∀ (g : Nat) (M G : gm_M), RR M G → ¬ G 2 (c / 2) 0 = 0 → sp = M 1 14 (c / 2) → RR (sfLoop c sp (nI (c / 2)) (nI (c % 2)) g M) (trL c g G)
  | 0, M, G, h, _, _ => h
  | g + 1, M, G, h, hst, hsp => by
    have e : M 0 2 c = G 27 c 0 := (h.2.1 c hc).1
    by_cases h0 : M 0 2 c ≤ 0
    · rw [show sfLoop c sp (nI (c / 2)) (nI (c % 2)) (g + 1) M = M from if_pos h0, trL_t (by rw [← e]; exact h0)]
      exact h
    · rw [show sfLoop c sp (nI (c / 2)) (nI (c % 2)) (g + 1) M = sfLoop c sp (nI (c / 2)) (nI (c % 2)) g (sfStep c sp (nI (c / 2)) (nI (c % 2)) M) from if_neg h0, trL_f (by rw [← e]; exact h0)]
      refine sim_loop hc g _ _ ?_ ?_ ?_
      · rw [hsp]; exact sim_step h hc hst h0
      · rw [sbF_ne (by decide) (by decide) (by decide) (by decide) (by decide) (by decide) (by decide) (by simp)]; exact hst
      · rw [sfStep_ne (by decide) (by decide) (by decide) (by simp) (by simp)]; exact hsp
theorem bx_le (f : Nat → Int32) : ∀ n, (∀ k, k < n → ∃ l, l ≤ 20 ∧ f k = nI l) → ∃ r, r ≤ 20 * n ∧ bx_sum f n = nI r
  | 0, _ => ⟨0, by omega, rfl⟩
  | n + 1, h => by
    obtain ⟨r, h1, h2⟩ := bx_le f n (fun k hk => h k (by omega))
    obtain ⟨l, h3, h4⟩ := h n (by omega)
    refine ⟨r + l, by omega, ?_⟩
    show bx_sum f n + f n = _
    rw [h2, h4, nI_add]
theorem sim_load {M G : gm_M} (h : RR M G) {c : Nat} (hc : c < 10) : loadF M c = loM G c ∧ ∃ r, r ≤ 160 ∧ loadF M c = nI r := by
  obtain ⟨h1, h2, h3, h4, d, a, q, num, b1, b2, b3, b4, b5, b6, b7, b8, b9, b10, b11, b12⟩ := h
  have hq8 := (b1 c hc).2.1
  have e1 : (M 0 2 c).toNatClampNeg = q c := by rw [(b1 c hc).1]; exact nI_clamp (by omega)
  have e2 : uN (G 27 c 0) = q c := by rw [(b1 c hc).2.2]; exact nI_clamp (by omega)
  unfold loadF loM
  rw [e1, e2]
  constructor
  · refine bx_congr _ (fun k hk => ?_)
    obtain ⟨g1, g2, g3, ⟨l, g4, g5, g6, g7⟩, g8, g9⟩ := b2 c k hc hk
    show M 11 k c = G 30 (uN (G 28 (8 * c + k) 0)) 0
    rw [g2, show uN (nI (num c k)) = num c k from nI_clamp (by omega), g6, g7]
  · obtain ⟨r, r1, r2⟩ := bx_le (fun k => M 11 k c) (q c) (fun k hk => by
      obtain ⟨g1, g2, g3, ⟨l, g4, g5, g6, g7⟩, g8, g9⟩ := b2 c k hc hk
      exact ⟨l, g5, g6⟩)
    exact ⟨r, by omega, r2⟩
theorem sim_report {M G : gm_M} (h : RR M G) {c : Nat} (hc : c < 10) (hst : ¬ G 2 (c / 2) 0 = 0) : RR (gm_up M 0 8 c (loadF M c)) (gm_up G 24 c 0 (loM G c)) := by
  obtain ⟨e1, r, e2, e3⟩ := sim_load h hc
  obtain ⟨h1, h2, h3, h4, d, a, q, num, h5⟩ := h
  refine ⟨fun u hu => (h1 u hu).congr (fun f => gm_un1 (by decide)) (fun k hk hk2 => gm_un1 (by omega)) (gm_un1 (by decide)), fun x hx => ?_, h3.congr (fun x hx => ⟨gm_un2 (by decide), gm_un2 (by decide)⟩), h4.congr (fun f _ _ _ _ => gm_un1 (by decide)) (fun f _ => gm_un1 (by decide)) (fun f => gm_un1 (by decide)) (fun f => gm_un1 (by decide)), d, a, q, num, h5.congr (fun x hx => ⟨gm_un2 (by decide), gm_un2 (by decide)⟩) (fun k x => ⟨gm_un1 (by decide), gm_un1 (by decide)⟩) ⟨gm_un1 (by decide), gm_un1 (by decide)⟩ (fun k => gm_un1 (by decide)) (fun k i hk => gm_un1 (by omega)) ⟨gm_un1 (by decide), gm_un1 (by decide)⟩⟩
  by_cases e : x = c
  · subst e
    obtain ⟨r1, r2, r3, r4, r5, r6, r7, r8, r9⟩ := h2 x hx
    have hm : ∀ f, f ≠ 8 → gm_up M 0 8 x (loadF M x) 0 f x = M 0 f x := fun f hf => gm_un2 hf
    have hg : ∀ k f, k ≠ 24 → gm_up G 24 x 0 (loM G x) k f 0 = G k f 0 := fun k f hk => gm_un1 hk
    rw [RC, gm_us, gm_us, hm 2 (by decide), hm 4 (by decide), hm 5 (by decide), hm 6 (by decide), hm 7 (by decide), hm 9 (by decide), hg 27 x (by decide), hg 20 x (by decide), hg 21 x (by decide), hg 22 x (by decide), hg 23 x (by decide), hg 25 x (by decide), hg 2 _ (by decide)]
    exact ⟨r1, r2, r3, r4, e1, r6, r7, fun z => absurd z hst, r, e2, e3⟩
  · exact (h2 x hx).congr (fun f _ _ => gm_un3 e) (fun k _ _ _ => gm_un2 e) (by rw [gm_un1 (by decide)])
theorem sim_cont {M G : gm_M} (h : RR M G) {i jj : Nat} (hi : i < 5) (hj : jj < 2) (hs : G 2 i 0 = 2) : RR (sb1 i jj M) (trM (2 * i + jj) G) := by
  have hc : 2 * i + jj < 10 := by omega
  have hc2 : (2 * i + jj) / 2 = i := by omega
  have hc3 : (2 * i + jj) % 2 = jj := by omega
  have h0 : ¬ G 2 i 0 = 0 := by rw [hs]; decide
  have hsp : M 1 14 i = G 7 i 0 := ((h.1 i hi).2.2.2 h0).2.2.2.2.2.2.2.2.1
  have hA : RR (sbA i jj M) (trA (2 * i + jj) G) := by
    unfold sbA trA
    rw [← (h.2.1 (2 * i + jj) hc).2.2.2.2.2.1]
    have := sim_loop (c := 2 * i + jj) (sp := M 1 14 i) hc (uN (M 0 9 (2 * i + jj))) M G h (by rw [hc2]; exact h0) (by rw [hc2])
    rw [hc2, hc3] at this
    exact this
  have h14 : sbA i jj M 1 14 i = G 7 i 0 := by
    unfold sbA
    rw [sfLoop_ne (by decide) (by decide) (by decide) (by simp) (by simp)]
    exact hsp
  have hst : ¬ trA (2 * i + jj) G 2 ((2 * i + jj) / 2) 0 = 0 := by
    unfold trA
    rw [trL_ne (by decide) (by decide) (by decide) (by decide) (by decide) (by decide) (by decide) (by simp), hc2]
    exact h0
  unfold sb1 trM
  rw [h14, hc2]
  by_cases z : G 7 i 0 = 0
  · rw [if_pos z, if_pos z]
    exact sim_report hA hc hst
  · rw [if_neg z, if_neg z]
    exact hA
theorem trM_ne {n k f m : Nat} {G : gm_M} (h0 : k ≠ 24) (h1 : k ≠ 27) (h2 : k ≠ 28) (h3 : k ≠ 30) (h4 : k ≠ 31) (h5 : k ≠ 33) (h6 : k ≠ 34) (h7 : k ≠ 35) (h8 : ¬ (k = 0 ∧ (f = 31 ∨ f = 35))) : trM n G k f m = G k f m := by
  have e : trA n G k f m = G k f m := trL_ne h1 h2 h3 h4 h5 h6 h7 h8 _ G
  unfold trM
  split
  · rw [gm_un1 h0]; exact e
  · exact e
theorem sim_send2 {M G : gm_M} (h : RR M G) : ∀ j, j ≤ 5 → RR (iter sb2 j M) (iter tr2 (2 * j) G)
  | 0, _ => h
  | j + 1, hj => by
    have ih := sim_send2 h j (by omega)
    rw [iter_s, show 2 * (j + 1) = 2 * j + 1 + 1 from rfl, iter_s tr2 (2 * j + 1), iter_s tr2 (2 * j)]
    generalize iter sb2 j M = M1 at ih ⊢
    generalize iter tr2 (2 * j) G = G1 at ih ⊢
    have a1 := (ih.1 j (by omega)).1
    unfold sb2
    by_cases hs : G1 2 j 0 = 2
    · have t1 : tr2 (2 * j) G1 = trM (2 * j) G1 := if_pos (by rw [show 2 * j / 2 = j by omega]; exact hs)
      have hs2 : trM (2 * j) G1 2 j 0 = 2 := by rw [trM_ne (by decide) (by decide) (by decide) (by decide) (by decide) (by decide) (by decide) (by decide) (by simp)]; exact hs
      have t2 : tr2 (2 * j + 1) (trM (2 * j) G1) = trM (2 * j + 1) (trM (2 * j) G1) := if_pos (by rw [show (2 * j + 1) / 2 = j by omega]; exact hs2)
      rw [if_pos (a1.trans hs), t1, t2]
      show RR (sb1 j 1 (sb1 j 0 M1)) _
      have s0 := sim_cont ih (i := j) (jj := 0) (by omega) (by decide) hs
      rw [Nat.add_zero] at s0
      exact sim_cont s0 (by omega) (by decide) hs2
    · have t1 : tr2 (2 * j) G1 = G1 := if_neg (by rw [show 2 * j / 2 = j by omega]; exact hs)
      have t2 : tr2 (2 * j + 1) G1 = G1 := if_neg (by rw [show (2 * j + 1) / 2 = j by omega]; exact hs)
      rw [if_neg (fun z => hs (a1.symm.trans z)), t1, t2]
      exact ih
theorem RR.ivs {M G : gm_M} (h : RR M G) (hB : GB M) : IVS M ∧ JVS G := by
  obtain ⟨h1, h2, h3, h4, d, a, q, num, b1, b2, b3, b4, b5, b6, b7, b8, b9, b10, b11, b12⟩ := h
  refine ⟨⟨fun c hc => ?_, q, a, fun c hc => ⟨(b1 c hc).1, (b1 c hc).2.1⟩, b9, by omega⟩, ⟨fun c hc => ?_, q, a, fun c hc => ⟨(b1 c hc).2.2, (b1 c hc).2.1, fun k hk => ?_⟩, b10, by omega⟩⟩
  · obtain ⟨g, g1, g2⟩ := hB c hc
    exact ⟨g, by omega, g2⟩
  · obtain ⟨g, g1, g2⟩ := hB c hc
    exact ⟨g, by omega, by rw [← (h2 c hc).2.2.2.2.2.1]; exact g2⟩
  · obtain ⟨g1, g2, g3, -⟩ := b2 c k hc hk
    rw [g2, show uN (nI (num c k)) = num c k from nI_clamp (by omega)]
    exact ⟨rfl, by omega⟩
theorem RR.many {M G : gm_M} (h : RR M G) : M 2 11 0 = G 0 31 0 := by
  obtain ⟨h1, h2, h3, h4, d, a, q, num, b1, b2, b3, b4, b5, b6, b7, b8, b9, b10, b11, b12⟩ := h
  exact b9.trans b10.symm
theorem we2_11 {u : Nat} {M : gm_M} : we2 u M 2 11 0 = M 2 11 0 := by
  have e : we1 u M 2 11 0 = M 2 11 0 := by
    unfold we1
    split
    · rfl
    · rw [gm_un2 (by decide), gm_un1 (by decide), gm_un1 (by decide)]
  unfold we2
  split
  · exact e
  · rw [gm_un1 (by decide)]; exact e
theorem tdF_11 {u : Nat} {M : gm_M} : tdF u M 2 11 0 = M 2 11 0 := by
  have e : ∀ f, uWord M u f 2 11 0 = M 2 11 0 := fun f => by
    unfold uWord
    split
    · rfl
    · rw [gm_un1 (by decide), gm_un1 (by decide), gm_un1 (by decide)]
  have e2 : ∀ N : gm_M, uKey N u 2 11 0 = N 2 11 0 := fun N => by
    unfold uKey
    split
    · rfl
    · split
      · rw [gm_un1 (by decide), gm_un1 (by decide), gm_un1 (by decide)]
      · rw [gm_un1 (by decide)]
  unfold tdF
  split
  · rw [e2, e]
  · rfl
theorem cs_11 (X : gm_M) : iter csF 5 X 2 11 0 = X 2 11 0 := iter_inv (f := csF) (P := fun Z => Z 2 11 0 = X 2 11 0) (M := X) (fun k Z hZ => by simp only [csF]; rw [gm_un1 (by decide)]; exact hZ) rfl 5
theorem td_11 (X : gm_M) : iter tdF 5 X 2 11 0 = X 2 11 0 := iter_inv (f := tdF) (P := fun Z => Z 2 11 0 = X 2 11 0) (M := X) (fun k Z hZ => by rw [tdF_11]; exact hZ) rfl 5
theorem we_11 (X : gm_M) : iter we2 5 X 2 11 0 = X 2 11 0 := iter_inv (f := we2) (P := fun Z => Z 2 11 0 = X 2 11 0) (M := X) (fun k Z hZ => by rw [we2_11]; exact hZ) rfl 5
theorem sim_frame {M G : gm_M} (h : RR M G) : ∃ o b : Nat, M 2 6 0 = nI o ∧ G 0 7 0 = nI o ∧ o ≤ 1 ∧ b < 2 ^ 31 ∧ mmL (frW M) 5 = nI b ∧ IVS (frC M b) ∧ mpA (fwM G) 0 37 0 = nI b ∧ JVS (fcM G b) ∧ frR M o b = fR G o b ∧ RR (frM M o b) (fM G o b) := by
  have hS := h.2.2.2.1
  obtain ⟨c1, c2, c3, c4, c5, c6, c7, c8, c9, c10, c11⟩ := hS
  obtain ⟨o, ho1, ho⟩ : ∃ o : Nat, o ≤ 1 ∧ M 2 6 0 = nI o := by
    rcases c2 with e | e
    · exact ⟨0, by omega, e⟩
    · exact ⟨1, by omega, e⟩
  have hcut : M 4 o 0 = G 9 o 0 := by
    rcases (show o = 0 ∨ o = 1 by omega) with e | e
    · rw [e]; exact c10
    · rw [e]; exact c11
  have hW0 : RR (iter we2 5 (frB M)) (iter lk2 5 (fbM G)) := RR_iter (f := we2) (g := lk2) 5 (fun u M G hu h => sim_watch h hu) (sim_frB h) 5 (Nat.le_refl 5)
  have hW : RR (frW M) (fwM G) := hW0
  have hW11 : frW M 2 11 0 = M 2 11 0 := by
    unfold frW
    rw [we_11, frB, gm_un2 (by decide), frA, gm_un2 (by decide)]
  obtain ⟨b, hb60, hb1, hb2, hM, hGB, h11⟩ := sim_map hW
  obtain ⟨hC, hGB2, h11b⟩ := sim_bursts hM hGB
  have hC' : RR (frC M b) (fcM G b) := hC
  obtain ⟨hI1, hI2⟩ := hC'.ivs hGB2
  have hT0 : RR (iter sb2 5 (frC M b)) (iter tr2 (2 * 5) (fcM G b)) := sim_send2 hC' 5 (Nat.le_refl 5)
  rw [show 2 * 5 = 10 from rfl] at hT0
  have hT : RR (iter sb2 5 (frC M b)) (ftM G b) := hT0
  have hK : RR (iter tdF 5 (iter sb2 5 (frC M b))) (iter ks2 5 (ftM G b)) := RR_iter (f := tdF) (g := ks2) 5 (fun u M G hu h => sim_tell h hu) hT 5 (Nat.le_refl 5)
  have hZ0 : RR (iter csF 5 (iter tdF 5 (iter sb2 5 (frC M b)))) (iter cs2 5 (iter ks2 5 (ftM G b))) := RR_iter (f := csF) (g := cs2) 5 (fun u M G hu h => sim_clear h hu) hK 5 (Nat.le_refl 5)
  have hZ : RR (frZ M b) (fzM G b) := hZ0
  have eC : frC M b 2 11 0 = M 2 11 0 := h11b.trans (h11.trans hW11)
  have eZ : frZ M b 2 11 0 = iter sb2 5 (frC M b) 2 11 0 := by
    unfold frZ
    rw [cs_11, td_11]
  refine ⟨o, b, ho, c1.symm.trans ho, ho1, by omega, hb1, hI1, hb2, hI2, ?_, ?_⟩
  · unfold frR fR
    rw [hcut, c4]
    by_cases d1 : G 9 o 0 = 0
    · rw [if_pos d1, if_pos d1]
      by_cases d2 : G 0 10 0 = 0
      · rw [if_pos d2, if_pos d2, eZ, hT.many, ← eC, hC'.many]
      · rw [if_neg d2, if_neg d2]
    · rw [if_neg d1, if_neg d1]
  · unfold frM fM
    rw [hcut, c4]
    by_cases d1 : G 9 o 0 = 0
    · rw [if_pos d1, if_pos d1]
      by_cases d2 : G 0 10 0 = 0
      · rw [if_pos d2, if_pos d2]; exact hZ
      · rw [if_neg d2, if_neg d2]
        exact sim_quiet (sim_frQ h)
    · rw [if_neg d1, if_neg d1]
      exact sim_dark (sim_frA h) (by rw [frA, gm_un2 (by decide)]; exact ho) ho1
