/-! ===== the frame (5): the bursts ===== -/
abbrev mt (M : gm_M) (i j : Nat) : Prop := ¬ (if M 8 j 0 < M 8 i 0 then M 8 j 0 else M 8 i 0) ≤ (if M 7 i 0 < M 7 j 0 then M 7 j 0 else M 7 i 0)
theorem gm_self {M : gm_M} {k f n : Nat} : gm_up M k f n (M k f n) = M := by
  funext k1 f1 n1
  by_cases h : k1 = k ∧ f1 = f ∧ n1 = n
  · obtain ⟨rfl, rfl, rfl⟩ := h; rw [gm_us]
  · rw [gm_unA h]
theorem cm1_e {N : gm_M} {x : Int32} {i j : Nat} : cm1 i j (gm_up N 2 13 0 x) = gm_up N 2 13 0 (x + tF (mt N i j)) := by
  unfold cm1
  rw [gm_us, gm_un1 (show (8 : Nat) ≠ 2 by decide), gm_un1 (show (8 : Nat) ≠ 2 by decide), gm_un1 (show (7 : Nat) ≠ 2 by decide), gm_un1 (show (7 : Nat) ≠ 2 by decide)]
  by_cases h : (if N 8 j 0 < N 8 i 0 then N 8 j 0 else N 8 i 0) ≤ (if N 7 i 0 < N 7 j 0 then N 7 j 0 else N 7 i 0)
  · rw [if_pos h, tF_f (fun z => z h), Int32.add_zero]
  · rw [if_neg h, tF_t h, gm_uu]
theorem cmI {N : gm_M} {i : Nat} (x : Int32) : ∀ n, iter (fun d M => cm1 i (i + 1 + d) M) n (gm_up N 2 13 0 x) = gm_up N 2 13 0 (x + bx_sum (fun d => tF (mt N i (i + 1 + d))) n)
  | 0 => by show gm_up N 2 13 0 x = gm_up N 2 13 0 (x + 0); rw [Int32.add_zero]
  | n + 1 => by
    rw [iter_s, cmI x n, cm1_e, Int32.add_assoc]
    rfl
theorem cmJ {N : gm_M} (x : Int32) : ∀ j, iter cm2 j (gm_up N 2 13 0 x) = gm_up N 2 13 0 (x + bx_sum (fun i => bx_sum (fun d => tF (mt N i (i + 1 + d))) (4 - i)) j)
  | 0 => by show gm_up N 2 13 0 x = gm_up N 2 13 0 (x + 0); rw [Int32.add_zero]
  | j + 1 => by
    rw [iter_s, cmJ x j]
    show iter (fun d M => cm1 j (j + 1 + d) M) (4 - j) _ = _
    rw [cmI, Int32.add_assoc]
    rfl
theorem bm1_e {K : gm_M} {x : Int32} {u k : Nat} : bm1 u k (gm_up K 0 36 0 x) = gm_up K 0 36 0 (x + tF (bmP K u k)) := by
  unfold bm1
  rw [gm_us, gm_uu]
  congr 2
theorem bmI {K : gm_M} {u : Nat} (x : Int32) : ∀ n, iter (bm1 u) n (gm_up K 0 36 0 x) = gm_up K 0 36 0 (x + bx_sum (fun k => tF (bmP K u k)) n)
  | 0 => by show gm_up K 0 36 0 x = gm_up K 0 36 0 (x + 0); rw [Int32.add_zero]
  | n + 1 => by
    rw [iter_s, bmI x n, bm1_e, Int32.add_assoc]
    rfl
theorem bmJ {K : gm_M} (x : Int32) : ∀ j, iter bm2 j (gm_up K 0 36 0 x) = gm_up K 0 36 0 (x + bx_sum (fun u => bx_sum (fun k => tF (bmP K u k)) u) j)
  | 0 => by show gm_up K 0 36 0 x = gm_up K 0 36 0 (x + 0); rw [Int32.add_zero]
  | j + 1 => by
    rw [iter_s, bmJ x j]
    show iter (bm1 j) j _ = _
    rw [bmI, Int32.add_assoc]
    rfl
theorem pairs_sum (T : Nat → Nat → Int32) : bx_sum (fun i => bx_sum (fun d => T i (i + 1 + d)) (4 - i)) 5 = bx_sum (fun u => bx_sum (fun k => T k u) u) 5 := by
  simp only [bx_sum, Nat.reduceAdd, Nat.reduceSub, Int32.zero_add]
  ac_rfl
theorem lb_ne (M : gm_M) : ∀ j k f m, k ≠ 7 → k ≠ 8 → (lbP M j).1 k f m = M k f m
  | 0, _, _, _, _, _ => rfl
  | j + 1, k, f, m, h7, h8 => by
    show gm_up (gm_up (lbP M j).1 7 j 0 _) 8 j 0 _ k f m = _
    rw [gm_un1 h8, gm_un1 h7]
    exact lb_ne M j k f m h7 h8
theorem bu_ne (G : gm_M) : ∀ j k f m, k ≠ 40 → k ≠ 41 → (buP G j).1 k f m = G k f m
  | 0, _, _, _, _, _ => rfl
  | j + 1, k, f, m, h7, h8 => by
    by_cases hs : (buP G j).1 2 j 0 = 2
    · rw [show buP G (j + 1) = _ from if_pos hs]
      show gm_up (gm_up (buP G j).1 40 j 0 _) 41 j 0 _ k f m = _
      rw [gm_un1 h8, gm_un1 h7]
      exact bu_ne G j k f m h7 h8
    · rw [show buP G (j + 1) = buP G j from if_neg hs]
      exact bu_ne G j k f m h7 h8
/-- a unit's burst, in the class and in the reference -/
def PRs (N K : gm_M) (i : Nat) (s : Int32) : Prop := ∃ S E : Int, (N 7 i 0).toInt = S ∧ (N 8 i 0).toInt = E ∧ ((¬ s = 2 ∧ E = S) ∨ (s = 2 ∧ S < E ∧ K 40 i 0 = N 7 i 0 ∧ K 40 i 0 + K 41 i 0 = N 8 i 0))
theorem i_st (s v w : Nat) (hs : s ≤ 20000) (hv : v ≤ 600) (hw : w ≤ 1000) : (nI s + (nI v - nI w)).toInt = (s : Int) + v - w := by
  have e : nI s + (nI v - nI w) = nI (s + v) - nI w := by rw [← nI_add, Int32.sub_eq_add_neg, Int32.sub_eq_add_neg, Int32.add_assoc]
  rw [e, pk_sub_toInt (by omega) (by omega)]
  omega
theorem i_en (s v w l : Nat) (hs : s ≤ 20000) (hv : v ≤ 600) (hw : w ≤ 1000) (hl : l ≤ 4000) : ((nI s + (nI v - nI w)) + nI l).toInt = (s : Int) + v - w + l := by
  have e : (nI s + (nI v - nI w)) + nI l = nI (s + v + l) - nI w := by
    rw [show nI s + (nI v - nI w) = nI (s + v) - nI w by rw [← nI_add, Int32.sub_eq_add_neg, Int32.sub_eq_add_neg, Int32.add_assoc], i_inc, nI_add]
  rw [e, pk_sub_toInt (by omega) (by omega)]
  omega
theorem burst_all {M G : gm_M} (h : RR M G) (hB : GB M) : ∀ j, j ≤ 5 → ∃ s, s ≤ 4000 * j ∧ (lbP M j).2 = nI s ∧ (buP G j).2 = nI s ∧ ∀ i, i < j → PRs (lbP M j).1 (buP G j).1 i (G 2 i 0)
  | 0, _ => ⟨0, by omega, rfl, rfl, fun i hi => by omega⟩
  | j + 1, hj => by
    obtain ⟨s, hs, e1, e2, ih⟩ := burst_all h hB j (by omega)
    obtain ⟨a1, a2, a3, a4⟩ := h.1 j (by omega)
    have hLen : lbLen (lbP M j).1 j = if G 2 j 0 = 2 then buS G j else 0 := by
      unfold lbLen
      rw [lb_ne M j 1 1 j (by decide) (by decide), a1]
      by_cases hs : G 2 j 0 = 2
      · rw [if_pos hs, if_pos hs]
        show (16 + 16 * (lbP M j).1 0 9 (2 * j + 0)) + 16 * (lbP M j).1 0 9 (2 * j + 1) = _
        rw [lb_ne M j 0 9 _ (by decide) (by decide), lb_ne M j 0 9 _ (by decide) (by decide), Nat.add_zero, (h.2.1 (2 * j) (by omega)).2.2.2.2.2.1, (h.2.1 (2 * j + 1) (by omega)).2.2.2.2.2.1, buS, Int32.mul_add, Int32.add_assoc]
      · rw [if_neg hs, if_neg hs]
    have hE : (lbP M j).1 1 5 j = M 1 5 j := lb_ne M j 1 5 j (by decide) (by decide)
    have hst : (buP G j).1 2 j 0 = G 2 j 0 := bu_ne G j 2 j 0 (by decide) (by decide)
    have hL1 : (lbP M (j + 1)).1 = gm_up (gm_up (lbP M j).1 7 j 0 (nI s + M 1 5 j)) 8 j 0 ((nI s + M 1 5 j) + (if G 2 j 0 = 2 then buS G j else 0)) := by
      show gm_up (gm_up (lbP M j).1 7 j 0 ((lbP M j).2 + (lbP M j).1 1 5 j)) 8 j 0 (((lbP M j).2 + (lbP M j).1 1 5 j) + lbLen (lbP M j).1 j) = _
      rw [e1, hE, hLen]
    have hL2 : (lbP M (j + 1)).2 = if (if G 2 j 0 = 2 then buS G j else 0) ≤ 0 then nI s else nI s + ((if G 2 j 0 = 2 then buS G j else 0) + 32) := by
      show (if lbLen (lbP M j).1 j ≤ 0 then (lbP M j).2 else (lbP M j).2 + (lbLen (lbP M j).1 j + 32)) = _
      rw [e1, hLen]
    have hold : ∀ (K : gm_M) (i : Nat), i < j → K 40 i 0 = (buP G j).1 40 i 0 → K 41 i 0 = (buP G j).1 41 i 0 → PRs (lbP M (j + 1)).1 K i (G 2 i 0) := fun K i hi k1 k2 => by
      obtain ⟨S, E, p1, p2, p3⟩ := ih i hi
      rw [PRs, hL1, gm_un1 (by decide), gm_un2 (by omega), gm_un2 (by omega), gm_un1 (by decide), k1, k2]
      exact ⟨S, E, p1, p2, p3⟩
    by_cases hs2 : G 2 j 0 = 2
    · rw [if_pos hs2] at hL1 hL2
      obtain ⟨g1, hg1, hg2⟩ := hB (2 * j) (by omega)
      obtain ⟨g3, hg3, hg4⟩ := hB (2 * j + 1) (by omega)
      have hbu : buS G j = nI (16 + 16 * (g1 + g3)) := by
        rw [buS, ← (h.2.1 (2 * j) (by omega)).2.2.2.2.2.1, ← (h.2.1 (2 * j + 1) (by omega)).2.2.2.2.2.1, hg2, hg4, nI_add, show (16 : Int32) * nI (g1 + g3) = nI (16 * (g1 + g3)) from pk_mul 16 _, show (16 : Int32) = nI 16 from rfl, nI_add]
      obtain ⟨z2, z3, z4, z6, z9, z10, z12, z13, z14, z11, zk, v, w, y1, y2, y3, y4, y5, y6⟩ := a4 (by rw [hs2]; decide)
      obtain ⟨y7, y8⟩ := y6 hs2
      have hB1 : buP G (j + 1) = (gm_up (gm_up (buP G j).1 40 j 0 (nI s + M 1 5 j)) 41 j 0 (buS G j), nI s + (buS G j + 32)) := by
        rw [show buP G (j + 1) = _ from if_pos (hst.trans hs2)]
        have er : erM (buP G j).1 j = M 1 5 j := by
          rw [y8, erM, erM, bu_ne G j 4 j 0 (by decide) (by decide), bu_ne G j 0 7 0 (by decide) (by decide), bu_ne G j 6 j 0 (by decide) (by decide)]
        have eb : buS (buP G j).1 j = buS G j := by
          rw [buS, buS, bu_ne G j 25 _ 0 (by decide) (by decide), bu_ne G j 25 _ 0 (by decide) (by decide)]
        rw [e2, er, eb]
      have hpos : ¬ buS G j ≤ 0 := by rw [hbu]; exact nI_nle (by omega) (by omega)
      rw [if_neg hpos] at hL2
      refine ⟨s + (16 + 16 * (g1 + g3) + 32), by omega, ?_, ?_, fun i hi => ?_⟩
      · rw [hL2, hbu, show (32 : Int32) = nI 32 from rfl, nI_add, nI_add]
      · rw [hB1, hbu, show (32 : Int32) = nI 32 from rfl, nI_add, nI_add]
      · by_cases e : i = j
        · subst e
          have hB2 : (buP G (i + 1)).1 = gm_up (gm_up (buP G i).1 40 i 0 (nI s + M 1 5 i)) 41 i 0 (buS G i) := by rw [hB1]
          rw [PRs, hL1, hB2, gm_us, gm_un1 (by decide), gm_us, gm_un1 (by decide), gm_us, gm_us, y7, hbu]
          exact ⟨_, _, i_st s v w (by omega) y3 y4, i_en s v w _ (by omega) y3 y4 (by omega), Or.inr ⟨hs2, by omega, rfl, rfl⟩⟩
        · have hB2 : (buP G (j + 1)).1 = gm_up (gm_up (buP G j).1 40 j 0 (nI s + M 1 5 j)) 41 j 0 (buS G j) := by rw [hB1]
          rw [hB2]
          exact hold _ i (by omega) (by rw [gm_un1 (by decide), gm_un2 e]) (by rw [gm_un2 e, gm_un1 (by decide)])
    · rw [if_neg hs2] at hL1 hL2
      have h5 : M 1 5 j = 0 := (h.1 j (by omega)).e0 hs2
      have hB1 : buP G (j + 1) = buP G j := if_neg (fun z => hs2 (hst.symm.trans z))
      rw [if_pos (by decide)] at hL2
      refine ⟨s, by omega, hL2, by rw [hB1]; exact e2, fun i hi => ?_⟩
      by_cases e : i = j
      · subst e
        rw [PRs, hL1, gm_us, gm_un1 (by decide), gm_us, h5, Int32.add_zero, Int32.add_zero]
        exact ⟨_, _, rfl, rfl, Or.inl ⟨hs2, rfl⟩⟩
      · rw [hB1]
        exact hold _ i (by omega) rfl rfl
theorem mt_bm {N K : gm_M} {i j : Nat} {si sj : Int32} (hi : PRs N K i si) (hj : PRs N K j sj) (k1 : K 2 i 0 = si) (k2 : K 2 j 0 = sj) : mt N i j ↔ bmP K j i := by
  obtain ⟨S1, E1, p1, p2, p3⟩ := hi
  obtain ⟨S2, E2, q1, q2, q3⟩ := hj
  simp only [mt, bmP]
  rw [k1, k2]
  have hmin : (if N 8 j 0 < N 8 i 0 then N 8 j 0 else N 8 i 0).toInt = if E2 < E1 then E2 else E1 := by
    by_cases c : E2 < E1
    · rw [if_pos (by rw [Int32.lt_iff_toInt_lt, p2, q2]; exact c), if_pos c]; exact q2
    · rw [if_neg (by rw [Int32.lt_iff_toInt_lt, p2, q2]; exact c), if_neg c]; exact p2
  have hmax : (if N 7 i 0 < N 7 j 0 then N 7 j 0 else N 7 i 0).toInt = if S1 < S2 then S2 else S1 := by
    by_cases c : S1 < S2
    · rw [if_pos (by rw [Int32.lt_iff_toInt_lt, p1, q1]; exact c), if_pos c]; exact q1
    · rw [if_neg (by rw [Int32.lt_iff_toInt_lt, p1, q1]; exact c), if_neg c]; exact p1
  rw [Int32.le_iff_toInt_le, hmin, hmax]
  rcases p3 with ⟨n1, f1⟩ | ⟨n1, f1, f2, f3⟩
  · constructor
    · intro z
      exfalso
      apply z
      split <;> split <;> omega
    · rintro ⟨⟨-, z⟩, -⟩
      exact absurd z n1
  · rcases q3 with ⟨n2, g1⟩ | ⟨n2, g1, g2, g3⟩
    · constructor
      · intro z
        exfalso
        apply z
        split <;> split <;> omega
      · rintro ⟨⟨z, -⟩, -⟩
        exact absurd z n2
    · rw [f3, g3, f2, g2, Int32.le_iff_toInt_le, Int32.le_iff_toInt_le, p1, p2, q1, q2]
      constructor
      · intro z
        refine ⟨⟨n2, n1⟩, fun y => z ?_, fun y => z ?_⟩ <;> split <;> split <;> omega
      · rintro ⟨-, z1, z2⟩ y
        revert y
        split <;> split <;> omega
theorem sim_bursts {M G : gm_M} (h : RR M G) (hB : GB M) : RR (iter cm2 5 (lbP M 5).1) (iter bm2 5 (buP G 5).1) ∧ GB (iter cm2 5 (lbP M 5).1) ∧ iter cm2 5 (lbP M 5).1 2 11 0 = M 2 11 0 := by
  obtain ⟨s, -, -, -, hp⟩ := burst_all h hB 5 (Nat.le_refl 5)
  have n1 := lb_ne M 5
  have n2 := bu_ne G 5
  generalize (lbP M 5).1 = N at hp n1 ⊢
  generalize (buP G 5).1 = K at hp n2 ⊢
  have eN : iter cm2 5 N = gm_up N 2 13 0 (N 2 13 0 + bx_sum (fun u => bx_sum (fun k => tF (bmP K u k)) u) 5) := by
    have e0 := cmJ (N := N) (N 2 13 0) 5
    rw [gm_self] at e0
    have eS : bx_sum (fun i => bx_sum (fun d => tF (mt N i (i + 1 + d))) (4 - i)) 5 = bx_sum (fun u => bx_sum (fun k => tF (bmP K u k)) u) 5 := (bx_congr 5 (fun i hi => bx_congr (4 - i) (fun d hd => tF_congr (mt_bm (hp i hi) (hp (i + 1 + d) (by omega)) (n2 2 i 0 (by decide) (by decide)) (n2 2 _ 0 (by decide) (by decide)))))).trans (pairs_sum (fun i j => tF (bmP K j i)))
    rw [eS] at e0
    exact e0
  have eK : iter bm2 5 K = gm_up K 0 36 0 (K 0 36 0 + bx_sum (fun u => bx_sum (fun k => tF (bmP K u k)) u) 5) := by
    have := bmJ (K := K) (K 0 36 0) 5
    rw [gm_self] at this
    exact this
  rw [eN, eK]
  generalize bx_sum (fun u => bx_sum (fun k => tF (bmP K u k)) u) 5 = T
  have hM : ∀ k f m, ¬ (k = 2 ∧ f = 13) → ¬ (k = 7 ∨ k = 8) → gm_up N 2 13 0 (N 2 13 0 + T) k f m = M k f m := fun k f m h1 h2 => by rw [gm_unA (by omega), n1 k f m (by omega) (by omega)]
  have hG : ∀ k f, ¬ (k = 0 ∧ f = 36) → ¬ (k = 40 ∨ k = 41) → gm_up K 0 36 0 (K 0 36 0 + T) k f 0 = G k f 0 := fun k f h1 h2 => by rw [gm_unA (by omega), n2 k f 0 (by omega) (by omega)]
  refine ⟨?_, fun c hc => by rw [hM 0 9 c (by omega) (by omega)]; exact hB c hc, hM 2 11 0 (by omega) (by omega)⟩
  refine h.scal (fun k f m h1 h2 => hM k f m (by omega) (by omega)) (fun k f h1 h2 => hG k f (by omega) (by omega)) ?_
  have h4 := h.2.2.2.1
  simp only [RS] at h4 ⊢
  obtain ⟨c1, c2, c3, c4, c5, c6, c7, c8, c9, c10, c11⟩ := h4
  rw [hM 2 6 0 (by omega) (by omega), hM 2 7 0 (by omega) (by omega), hM 2 8 0 (by omega) (by omega), hM 2 9 0 (by omega) (by omega), hM 2 12 0 (by omega) (by omega), hM 2 14 0 (by omega) (by omega), hM 2 15 0 (by omega) (by omega), hM 4 0 0 (by omega) (by omega), hM 4 1 0 (by omega) (by omega), gm_us, gm_us, hG 0 7 (by omega) (by omega), hG 0 9 (by omega) (by omega), hG 0 10 (by omega) (by omega), hG 0 11 (by omega) (by omega), hG 0 35 (by omega) (by omega), hG 0 37 (by omega) (by omega), hG 0 38 (by omega) (by omega), hG 9 0 (by omega) (by omega), hG 9 1 (by omega) (by omega), n1 2 13 0 (by decide) (by decide), n2 0 36 0 (by decide) (by decide)]
  exact ⟨c1, c2, c3, c4, c5, c6, by rw [c7], c8, c9, c10, c11⟩
