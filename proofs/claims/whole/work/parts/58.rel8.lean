/-! ===== the frame (3): the map ===== -/
def gvC (M : gm_M) (c : Nat) : Int32 := if M 1 1 (c / 2) = 2 then sureF (M 0 4 c) (M 0 5 c) (M 0 8 c) else 0
theorem cGive_9 {M : gm_M} {n : Nat} {z : Int32} : cGive M n z 0 9 n = if z = 0 then 0 else sureF (M 0 4 n) (M 0 5 n) (M 0 8 n) := by
  unfold cGive
  exact gm_us
theorem cGive_10 {M : gm_M} {n : Nat} {z : Int32} : cGive M n z 0 10 n = 0 := by
  unfold cGive
  rw [gm_un2 (by decide), gm_us]
theorem cGive_ne {M : gm_M} {n : Nat} {z : Int32} {k f m : Nat} (h : ¬ (k = 0 ∧ (f = 9 ∨ f = 10) ∧ m = n)) : cGive M n z k f m = M k f m := by
  unfold cGive
  rw [gm_unA (by omega), gm_unA (by omega)]
theorem mmU_e (M : gm_M) (j : Nat) : mmU j M = cGive (cGive M (2 * j) (if M 1 1 j = 2 then 1 else 0)) (2 * j + 1) (if M 1 1 j = 2 then 1 else 0) := rfl
theorem gv_if {x y : Int32} (s : Int32) : (if (if s = 2 then (1 : Int32) else 0) = 0 then x else y) = if s = 2 then y else x := by
  by_cases h : s = 2
  · rw [if_pos h, if_pos h, if_neg (by decide)]
  · rw [if_neg h, if_neg h, if_pos rfl]
theorem mmU_9 (M : gm_M) (j m : Nat) (h : m = 2 * j ∨ m = 2 * j + 1) : mmU j M 0 9 m = gvC M m := by
  rw [mmU_e]
  rcases h with rfl | rfl
  · rw [cGive_ne (by omega), cGive_9, gv_if, gvC, show 2 * j / 2 = j by omega]
  · rw [cGive_9, gv_if, gvC, show (2 * j + 1) / 2 = j by omega, cGive_ne (by omega), cGive_ne (by omega), cGive_ne (by omega)]
theorem mmU_10 (M : gm_M) (j m : Nat) (h : m = 2 * j ∨ m = 2 * j + 1) : mmU j M 0 10 m = 0 := by
  rw [mmU_e]
  rcases h with rfl | rfl
  · rw [cGive_ne (by omega), cGive_10]
  · rw [cGive_10]
theorem mmU_ne (M : gm_M) (j k f m : Nat) (h : ¬ (k = 0 ∧ (f = 9 ∨ f = 10) ∧ (m = 2 * j ∨ m = 2 * j + 1))) : mmU j M k f m = M k f m := by
  rw [mmU_e, cGive_ne (by omega), cGive_ne (by omega)]
theorem mmS_ne (M : gm_M) : ∀ j k f m, ¬ (k = 0 ∧ (f = 9 ∨ f = 10) ∧ m < 2 * j) → iter mmU j M k f m = M k f m
  | 0, k, f, m, _ => rfl
  | j + 1, k, f, m, h => by rw [iter_s, mmU_ne _ _ _ _ _ (by omega), mmS_ne M j k f m (by omega)]
theorem mmS_9 (M : gm_M) : ∀ j m, m < 2 * j → iter mmU j M 0 9 m = gvC M m
  | 0, m, h => by omega
  | j + 1, m, h => by
    rw [iter_s]
    by_cases e : m < 2 * j
    · rw [mmU_ne _ _ _ _ _ (by omega), mmS_9 M j m e]
    · rw [mmU_9 _ _ _ (by omega), gvC, gvC, mmS_ne M j 1 1 _ (by omega), mmS_ne M j 0 4 _ (by omega), mmS_ne M j 0 5 _ (by omega), mmS_ne M j 0 8 _ (by omega)]
theorem mmS_10 (M : gm_M) : ∀ j m, m < 2 * j → iter mmU j M 0 10 m = 0
  | 0, m, h => by omega
  | j + 1, m, h => by
    rw [iter_s]
    by_cases e : m < 2 * j
    · rw [mmU_ne _ _ _ _ _ (by omega), mmS_10 M j m e]
    · rw [mmU_10 _ _ _ (by omega)]
/-- what is left for the spare, with numbers -/
def wK (M : gm_M) : Nat → Nat
  | 0 => 0
  | j + 1 => wK M j + (if M 1 1 j = 2 then 1 else 0)
def gK (g : Nat → Nat) : Nat → Nat
  | 0 => 0
  | c + 1 => gK g c + g c
theorem wK_le (M : gm_M) : ∀ j, wK M j ≤ j
  | 0 => Nat.le_refl 0
  | j + 1 => by
    rw [wK]
    have := wK_le M j
    split <;> omega
theorem gK_10 (g : Nat → Nat) : gK g 10 = qs g := by
  simp only [gK, qs]
  omega
theorem gK_mono (g : Nat → Nat) {a : Nat} : ∀ b, a ≤ b → gK g a ≤ gK g b
  | 0, h => by rw [Nat.le_zero.mp h]; exact Nat.le_refl _
  | b + 1, h => by
    by_cases e : a = b + 1
    · rw [e]; exact Nat.le_refl _
    · have := gK_mono g (a := a) b (by omega)
      rw [gK]
      omega
theorem nI_sb {a b : Nat} (h : b ≤ a) : nI a - nI b = nI (a - b) := pk_sub h
theorem mmL_v (M : gm_M) (g : Nat → Nat) (hg : ∀ c, c < 10 → gvC M c = nI (g c)) (hsum : qs g ≤ 55) : ∀ j, j ≤ 5 → mmL M j = nI (60 - wK M j - gK g (2 * j))
  | 0, _ => rfl
  | j + 1, hj => by
    have ih := mmL_v M g hg hsum j (by omega)
    have h1 : iter mmU j M 1 1 j = M 1 1 j := mmS_ne M j 1 1 j (by omega)
    have hw := wK_le M (j + 1)
    have hgm := gK_mono g (a := 2 * j + 2) 10 (by omega)
    rw [gK_10] at hgm
    have hg2 : gK g (2 * j + 2) = gK g (2 * j) + g (2 * j) + g (2 * j + 1) := rfl
    rw [mmL_s]
    have hv : ∀ i, i < 2 → (iter (mmI j (if iter mmU j M 1 1 j = 2 then 1 else 0)) (i + 1) (iter mmU j M)) 0 9 (2 * j + i) = nI (g (2 * j + i)) := by
      intro i hi
      have hall : iter (mmI j (if iter mmU j M 1 1 j = 2 then 1 else 0)) 2 (iter mmU j M) 0 9 (2 * j + i) = nI (g (2 * j + i)) := by
        show mmU j (iter mmU j M) 0 9 (2 * j + i) = _
        have := mmS_9 M (j + 1) (2 * j + i) (by omega)
        rw [iter_s] at this
        rw [this]
        exact hg _ (by omega)
      rcases (show i = 0 ∨ i = 1 by omega) with rfl | rfl
      · rw [← hall]
        show _ = cGive _ (2 * j + 1) _ 0 9 (2 * j + 0)
        rw [cGive_ne (by omega)]
      · exact hall
    have e1 := hv 0 (by decide)
    have e2 := hv 1 (by decide)
    generalize hwv : (if iter mmU j M 1 1 j = 2 then (1 : Int32) else 0) = wv at e1 e2 ⊢
    show (mmLi _ j wv _ 0 - _) - _ = _
    show ((if iter mmU j M 1 1 j = 2 then mmL M j + (-1) else mmL M j) - iter (mmI j wv) (0 + 1) (iter mmU j M) 0 9 (2 * j + 0)) - iter (mmI j wv) (1 + 1) (iter mmU j M) 0 9 (2 * j + 1) = _
    rw [e1, e2, h1, ih, Nat.add_zero]
    show _ = nI (60 - wK M (j + 1) - gK g (2 * j + 2))
    have hw2 : wK M (j + 1) = wK M j + (if M 1 1 j = 2 then 1 else 0) := rfl
    by_cases hs : M 1 1 j = 2
    · rw [if_pos hs] at hw2 ⊢
      rw [show nI (60 - wK M j - gK g (2 * j)) + -1 = nI (60 - wK M j - gK g (2 * j) - 1) by
        rw [show 60 - wK M j - gK g (2 * j) = (60 - wK M j - gK g (2 * j) - 1) + 1 by omega]; exact pk_m1 _, nI_sb (by omega), nI_sb (by omega)]
      congr 1
      omega
    · rw [if_neg hs] at hw2 ⊢
      rw [nI_sb (by omega), nI_sb (by omega)]
      congr 1
      omega
/-! the reference's -/
theorem mp1_v (G : gm_M) : ∀ j, j ≤ 5 → (∀ k f m, ¬ (k = 0 ∧ f = 37 ∧ m = 0) → iter mp1 j G k f m = G k f m) ∧ ∀ M : gm_M, (∀ u, u < 5 → M 1 1 u = G 2 u 0) → G 0 37 0 = 60 → iter mp1 j G 0 37 0 = nI (60 - wK M j)
  | 0, _ => ⟨fun _ _ _ _ => rfl, fun M _ h => h⟩
  | j + 1, hj => by
    obtain ⟨i1, i2⟩ := mp1_v G j (by omega)
    rw [iter_s]
    refine ⟨fun k f m hk => by simp only [mp1]; rw [gm_unA hk]; exact i1 k f m hk, fun M hM h60 => ?_⟩
    simp only [mp1]
    rw [gm_us, i2 M hM h60, i1 2 j 0 (by omega), ← hM j (by omega)]
    have hw := wK_le M j
    by_cases hs : M 1 1 j = 2
    · rw [if_pos hs, wK, if_pos hs, show (1 : Int32) = nI 1 from rfl, nI_sb (by omega)]
      congr 1
    · rw [if_neg hs, wK, if_neg hs, show (0 : Int32) = nI 0 from rfl, nI_sb (by omega)]
      congr 1
theorem mp2_ne (G : gm_M) : ∀ j k f, ¬ (k = 0 ∧ f = 37) → ¬ ((k = 25 ∨ k = 26) ∧ f < j) → iter mp2 j G k f 0 = G k f 0
  | 0, k, f, _, _ => rfl
  | j + 1, k, f, h1, h2 => by
    rw [iter_s]
    simp only [mp2]
    rw [gm_unA (by omega), gm_unA (by omega), gm_unA (by omega), mp2_ne G j k f h1 (by omega)]
theorem mp2_gv (G : gm_M) (j : Nat) : gvM (iter mp2 j G) j = gvM G j := by
  unfold gvM
  rw [mp2_ne G j 2 _ (by omega) (by omega), mp2_ne G j 20 _ (by omega) (by omega), mp2_ne G j 21 _ (by omega) (by omega), mp2_ne G j 24 _ (by omega) (by omega)]
theorem mp2_25 (G : gm_M) : ∀ j f, f < j → iter mp2 j G 25 f 0 = gvM G f ∧ iter mp2 j G 26 f 0 = 0
  | 0, f, h => by omega
  | j + 1, f, h => by
    rw [iter_s]
    simp only [mp2]
    rw [mp2_gv]
    by_cases e : f = j
    · subst e
      exact ⟨by rw [gm_un1 (by decide), gm_un1 (by decide), gm_us], by rw [gm_un1 (by decide), gm_us]⟩
    · have ih := mp2_25 G j f (by omega)
      exact ⟨by rw [gm_un1 (by decide), gm_un1 (by decide), gm_un2 e]; exact ih.1, by rw [gm_un1 (by decide), gm_un2 e, gm_un1 (by decide)]; exact ih.2⟩
theorem mp2_37 (G : gm_M) (g : Nat → Nat) (x : Nat) (hg : ∀ c, c < 10 → gvM G c = nI (g c)) (hx : G 0 37 0 = nI x) (hle : gK g 10 ≤ x) : ∀ j, j ≤ 10 → iter mp2 j G 0 37 0 = nI (x - gK g j)
  | 0, _ => hx
  | j + 1, hj => by
    rw [iter_s]
    simp only [mp2]
    have hm := gK_mono g (a := j + 1) 10 (by omega)
    have hgj : gK g (j + 1) = gK g j + g j := rfl
    rw [gm_us, mp2_gv, mp2_37 G g x hg hx hle j (by omega), hg j (by omega), nI_sb (by omega)]
    congr 1
    omega
theorem sure_eq {f a r : Nat} (hf : f ≤ 55) (ha : a ≤ 55) (hr : r ≤ 160) : sureF (nI f) (nI a) (nI r) = nI f + suM (nI r - nI f) (nI a) ∧ ∃ g, g ≤ f + a ∧ sureF (nI f) (nI a) (nI r) = nI g := by
  unfold sureF suM
  have hT : (nI r - nI f).toInt = (r : Int) - f := pk_sub_toInt (by omega) (by omega)
  by_cases h1 : f ≤ r
  · have e : nI r - nI f = nI (r - f) := nI_sb h1
    rw [e]
    have n1 : ((0 : Int32) < nI (r - f)) ↔ 0 < r - f := nI_ltI (a := 0) (by decide) (by omega)
    rw [if_pos (nI_pos' (by omega))]
    by_cases h2 : 0 < r - f
    · rw [if_pos (n1.mpr h2)]
      by_cases h3 : r - f < a
      · rw [if_pos (nI_lt h3 (by omega)), if_neg (nI_ge h3 (by omega)), nI_add]
        exact ⟨rfl, _, by omega, rfl⟩
      · rw [if_neg (nI_nlt (by omega) (by omega)), if_pos (nI_le (by omega) (by omega)), nI_add]
        exact ⟨rfl, _, by omega, rfl⟩
    · rw [if_neg (fun z => h2 (n1.mp z))]
      have h0 : r - f = 0 := by omega
      rw [h0]
      by_cases h3 : 0 < a
      · rw [if_pos (show (0 : Int32) < nI a from (nI_ltI (a := 0) (by decide) (by omega)).mpr h3), if_neg (show ¬ nI a ≤ nI 0 from nI_ge h3 (by omega))]
        exact ⟨rfl, f, by omega, Int32.add_zero _⟩
      · have : a = 0 := by omega
        subst this
        rw [if_neg (by decide), if_pos (by decide)]
        exact ⟨rfl, f, by omega, Int32.add_zero _⟩
  · have n1 : ¬ (0 : Int32) < nI r - nI f := by
      rw [Int32.lt_iff_toInt_lt, hT]
      simp
      omega
    have n2 : ¬ (0 : Int32) ≤ nI r - nI f := by
      rw [Int32.le_iff_toInt_le, hT]
      simp
      omega
    rw [if_neg n1, if_neg n2]
    by_cases h3 : 0 < a
    · rw [if_pos (show (0 : Int32) < nI a from (nI_ltI (a := 0) (by decide) (by omega)).mpr h3)]
      exact ⟨rfl, f, by omega, Int32.add_zero _⟩
    · have : a = 0 := by omega
      subst this
      rw [if_neg (by decide)]
      exact ⟨rfl, f, by omega, Int32.add_zero _⟩
theorem gv_eq {M G : gm_M} (h : RR M G) : ∃ g : Nat → Nat, qs g ≤ 55 ∧ ∀ c, c < 10 → gvC M c = nI (g c) ∧ gvM G c = nI (g c) := by
  obtain ⟨h1, h2, ⟨f, a, hf, hsum⟩, -⟩ := h
  have hx : ∀ c, ∃ g, c < 10 → g ≤ f c + a c ∧ gvC M c = nI g ∧ gvM G c = nI g := by
    intro c
    by_cases hc : c < 10
    · have hfc := qs_ge f c hc
      have hac := qs_ge a c hc
      obtain ⟨r1, r2, r3, r4, r5, r6, r7, r8, r, hr, hr2⟩ := h2 c hc
      have hs : M 1 1 (c / 2) = G 2 (c / 2) 0 := (h1 (c / 2) (by omega)).1
      obtain ⟨e1, g, e2, e3⟩ := sure_eq (f := f c) (a := a c) (r := r) (by omega) (by omega) hr
      unfold gvC gvM
      rw [hs, ← r2, ← r3, ← r5, (hf c hc).1, (hf c hc).2, hr2]
      by_cases hst : G 2 (c / 2) 0 = 2
      · exact ⟨g, fun _ => ⟨e2, by rw [if_pos hst]; exact e3, by rw [if_pos hst, ← e1]; exact e3⟩⟩
      · exact ⟨0, fun _ => ⟨by omega, by rw [if_neg hst]; rfl, by rw [if_neg hst]; rfl⟩⟩
    · exact ⟨0, fun z => absurd z hc⟩
  refine ⟨fun c => (hx c).choose, ?_, fun c hc => ((hx c).choose_spec hc).2⟩
  have := qs_mono (q := fun c => f c + a c) (q' := fun c => (hx c).choose) (fun c hc => ((hx c).choose_spec hc).1)
  have e : qs (fun c => f c + a c) = qs f + qs a := by simp only [qs]; omega
  omega
