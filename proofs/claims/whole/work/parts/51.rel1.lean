/-! ===== the relation between the class's ints and the reference's ===== -/
def RK (M G : gm_M) (u : Nat) : Prop := (M 1 7 u = 0 ∧ G 14 u 0 = -1) ∨ (M 1 7 u = 1 ∧ M 1 8 u = G 14 u 0 ∧ ¬ G 14 u 0 < 0)
def RE (M G : gm_M) (u : Nat) : Prop := ∃ v w : Nat, M 1 3 u = nI v ∧ 100 ≤ v ∧ v ≤ 600 ∧ w ≤ 1000 ∧ (G 2 u 0 = 1 → M 1 5 u = 0) ∧ (G 2 u 0 = 2 → M 1 5 u = nI v - nI w ∧ M 1 5 u = erM G u)
def RU0 (M : gm_M) (u : Nat) : Prop := M 1 2 u = 0 ∧ M 1 3 u = 0 ∧ M 1 4 u = 0 ∧ M 1 5 u = 0 ∧ M 1 6 u = 0 ∧ M 1 7 u = 0 ∧ M 1 8 u = 0 ∧ M 1 9 u = 0 ∧ M 1 10 u = 0 ∧ M 1 11 u = 0 ∧ M 1 12 u = 0 ∧ M 1 13 u = 0 ∧ M 1 14 u = 0
def RU1 (M G : gm_M) (u : Nat) : Prop := M 1 2 u = G 3 u 0 ∧ M 1 3 u = G 4 u 0 ∧ M 1 4 u = G 5 u 0 ∧ M 1 6 u = G 13 u 0 ∧ M 1 9 u = G 15 u 0 ∧ M 1 10 u = G 16 u 0 ∧ M 1 12 u = G 18 u 0 ∧ M 1 13 u = G 19 u 0 ∧ M 1 14 u = G 7 u 0 ∧ (¬ G 16 u 0 = 0 → M 1 11 u = G 17 u 0) ∧ RK M G u ∧ RE M G u
def RU (M G : gm_M) (u : Nat) : Prop := M 1 1 u = G 2 u 0 ∧ (G 2 u 0 = 0 ∨ G 2 u 0 = 1 ∨ G 2 u 0 = 2) ∧ (G 2 u 0 = 0 → RU0 M u) ∧ (¬ G 2 u 0 = 0 → RU1 M G u)
def RC0 (M : gm_M) (c : Nat) : Prop := M 0 2 c = 0 ∧ M 0 3 c = 0 ∧ M 0 4 c = 0 ∧ M 0 5 c = 0 ∧ M 0 6 c = 0 ∧ M 0 7 c = 1 ∧ M 0 8 c = 0 ∧ M 0 9 c = 0
def RC (M G : gm_M) (c : Nat) : Prop := M 0 2 c = G 27 c 0 ∧ M 0 4 c = G 20 c 0 ∧ M 0 5 c = G 21 c 0 ∧ M 0 6 c = G 22 c 0 ∧ M 0 8 c = G 24 c 0 ∧ M 0 9 c = G 25 c 0 ∧ (¬ G 2 (c / 2) 0 = 0 → M 0 7 c = G 23 c 0) ∧ (G 2 (c / 2) 0 = 0 → RC0 M c) ∧ (∃ r : Nat, r ≤ 160 ∧ M 0 8 c = nI r)
def RF (M : gm_M) : Prop := ∃ f a : Nat → Nat, (∀ c, c < 10 → M 0 4 c = nI (f c) ∧ M 0 5 c = nI (a c)) ∧ qs f + qs a ≤ 55
def RS (M G : gm_M) : Prop := M 2 6 0 = G 0 7 0 ∧ (M 2 6 0 = 0 ∨ M 2 6 0 = 1) ∧ M 2 7 0 = G 0 9 0 ∧ M 2 8 0 = G 0 10 0 ∧ M 2 9 0 = G 0 11 0 ∧ M 2 12 0 = G 0 35 0 ∧ M 2 13 0 = G 0 36 0 ∧ M 2 14 0 = G 0 37 0 ∧ M 2 15 0 = G 0 38 0 ∧ M 4 0 0 = G 9 0 0 ∧ M 4 1 0 = G 9 1 0
def RA (M G : gm_M) (a : Nat) : Prop := ∀ k, k < a → M 5 (4 * k) 0 = G 33 k 0 ∧ (∃ c, c < 10 ∧ G 34 k 0 = nI c ∧ M 5 (4 * k + 1) 0 = nI (c / 2) ∧ M 5 (4 * k + 2) 0 = nI (c % 2)) ∧ M 5 (4 * k + 3) 0 = G 35 k 0
/-- the datagram at place k of a container's queue -/
def RG (M G : gm_M) (c k n d : Nat) : Prop := M 10 k c = nI n ∧ G 28 (8 * c + k) 0 = nI n ∧ n < d ∧ (∃ l : Nat, 1 ≤ l ∧ l ≤ 20 ∧ M 11 k c = nI l ∧ G 30 n 0 = nI l) ∧ (k = 0 → (M 0 3 c = 0 ↔ G 31 n 0 = 0)) ∧ (¬ k = 0 → G 31 n 0 = 0)
def RD (M G : gm_M) (d a : Nat) (q : Nat → Nat) (num : Nat → Nat → Nat) : Prop :=
  (∀ c, c < 10 → M 0 2 c = nI (q c) ∧ q c ≤ 8 ∧ G 27 c 0 = nI (q c)) ∧ (∀ c k, c < 10 → k < q c → RG M G c k (num c k) d) ∧ (∀ c, c < 10 → q c = 0 → M 0 3 c = 0) ∧
  (∀ c k c' k', c < 10 → k < q c → c' < 10 → k' < q c' → num c k = num c' k' → c = c' ∧ k = k') ∧ (∀ n, d ≤ n → G 31 n 0 = 0) ∧ M 2 10 0 = nI d ∧ G 0 28 0 = nI d ∧ d ≤ 100 ∧ M 2 11 0 = nI a ∧ G 0 31 0 = nI a ∧ a + qs q ≤ d ∧ RA M G a
def RR (M G : gm_M) : Prop := (∀ u, u < 5 → RU M G u) ∧ (∀ c, c < 10 → RC M G c) ∧ RF M ∧ RS M G ∧ ∃ d a q num, RD M G d a q num
theorem RU.congr {M G M' G' : gm_M} {u : Nat} (h : RU M G u) (h1 : ∀ f, M' 1 f u = M 1 f u) (h2 : ∀ k, 2 ≤ k → k ≤ 19 → G' k u 0 = G k u 0) (h3 : G' 0 7 0 = G 0 7 0) : RU M' G' u := by
  have e2 := h2 2 (by decide) (by decide)
  have e3 := h2 3 (by decide) (by decide)
  have e4 := h2 4 (by decide) (by decide)
  have e5 := h2 5 (by decide) (by decide)
  have e6 := h2 6 (by decide) (by decide)
  have e7 := h2 7 (by decide) (by decide)
  have e13 := h2 13 (by decide) (by decide)
  have e14 := h2 14 (by decide) (by decide)
  have e15 := h2 15 (by decide) (by decide)
  have e16 := h2 16 (by decide) (by decide)
  have e17 := h2 17 (by decide) (by decide)
  have e18 := h2 18 (by decide) (by decide)
  have e19 := h2 19 (by decide) (by decide)
  simp only [RU, RU0, RU1, RK, RE, erM] at h ⊢
  simp only [h1, e2, e3, e4, e5, e6, e7, e13, e14, e15, e16, e17, e18, e19, h3]
  exact h
theorem RC.congr {M G M' G' : gm_M} {c : Nat} (h : RC M G c) (h1 : ∀ f, 2 ≤ f → f ≤ 9 → M' 0 f c = M 0 f c) (h2 : ∀ k, 20 ≤ k → k ≤ 27 → k ≠ 26 → G' k c 0 = G k c 0) (h3 : G' 2 (c / 2) 0 = 0 ↔ G 2 (c / 2) 0 = 0) : RC M' G' c := by
  have a2 := h1 2 (by decide) (by decide)
  have a3 := h1 3 (by decide) (by decide)
  have a4 := h1 4 (by decide) (by decide)
  have a5 := h1 5 (by decide) (by decide)
  have a6 := h1 6 (by decide) (by decide)
  have a7 := h1 7 (by decide) (by decide)
  have a8 := h1 8 (by decide) (by decide)
  have a9 := h1 9 (by decide) (by decide)
  have e20 := h2 20 (by decide) (by decide) (by decide)
  have e21 := h2 21 (by decide) (by decide) (by decide)
  have e22 := h2 22 (by decide) (by decide) (by decide)
  have e23 := h2 23 (by decide) (by decide) (by decide)
  have e24 := h2 24 (by decide) (by decide) (by decide)
  have e25 := h2 25 (by decide) (by decide) (by decide)
  have e27 := h2 27 (by decide) (by decide) (by decide)
  simp only [RC, RC0] at h ⊢
  simp only [a2, a3, a4, a5, a6, a7, a8, a9, e20, e21, e22, e23, e24, e25, e27, h3]
  exact h
theorem RF.congr {M M' : gm_M} (h : RF M) (h1 : ∀ c, c < 10 → M' 0 4 c = M 0 4 c ∧ M' 0 5 c = M 0 5 c) : RF M' := by
  obtain ⟨f, a, h2, h3⟩ := h
  exact ⟨f, a, fun c hc => by rw [(h1 c hc).1, (h1 c hc).2]; exact h2 c hc, h3⟩
theorem RS.congr {M G M' G' : gm_M} (h : RS M G) (h1 : ∀ f, 6 ≤ f → f ≤ 15 → f ≠ 10 → f ≠ 11 → M' 2 f 0 = M 2 f 0) (h2 : ∀ f, f = 7 ∨ f = 9 ∨ f = 10 ∨ f = 11 ∨ f = 35 ∨ f = 36 ∨ f = 37 ∨ f = 38 → G' 0 f 0 = G 0 f 0) (h3 : ∀ f, M' 4 f 0 = M 4 f 0) (h4 : ∀ f, G' 9 f 0 = G 9 f 0) : RS M' G' := by
  have a6 := h1 6 (by decide) (by decide) (by decide) (by decide)
  have a7 := h1 7 (by decide) (by decide) (by decide) (by decide)
  have a8 := h1 8 (by decide) (by decide) (by decide) (by decide)
  have a9 := h1 9 (by decide) (by decide) (by decide) (by decide)
  have a12 := h1 12 (by decide) (by decide) (by decide) (by decide)
  have a13 := h1 13 (by decide) (by decide) (by decide) (by decide)
  have a14 := h1 14 (by decide) (by decide) (by decide) (by decide)
  have a15 := h1 15 (by decide) (by decide) (by decide) (by decide)
  have e7 := h2 7 (by decide)
  have e9 := h2 9 (by decide)
  have e10 := h2 10 (by decide)
  have e11 := h2 11 (by decide)
  have e35 := h2 35 (by decide)
  have e36 := h2 36 (by decide)
  have e37 := h2 37 (by decide)
  have e38 := h2 38 (by decide)
  simp only [RS] at h ⊢
  simp only [a6, a7, a8, a9, a12, a13, a14, a15, e7, e9, e10, e11, e35, e36, e37, e38, h3, h4]
  exact h
theorem RA.congr {M G M' G' : gm_M} {a : Nat} (h : RA M G a) (h1 : ∀ k, M' 5 k 0 = M 5 k 0) (h2 : ∀ k i, k = 33 ∨ k = 34 ∨ k = 35 → G' k i 0 = G k i 0) : RA M' G' a := by
  intro k hk
  rw [h1, h1, h1, h1, h2 33 k (by decide), h2 34 k (by decide), h2 35 k (by decide)]
  exact h k hk
theorem RG.congr {M G M' G' : gm_M} {c k n d d' : Nat} (h : RG M G c k n d) (h1 : M' 10 k c = M 10 k c) (h2 : M' 11 k c = M 11 k c) (h3 : M' 0 3 c = M 0 3 c) (h4 : G' 28 (8 * c + k) 0 = G 28 (8 * c + k) 0) (h5 : G' 30 n 0 = G 30 n 0) (h6 : G' 31 n 0 = G 31 n 0) (hd : d ≤ d') : RG M' G' c k n d' := by
  simp only [RG] at h ⊢
  simp only [h1, h2, h3, h4, h5, h6]
  obtain ⟨a1, a2, a3, a4, a5, a6⟩ := h
  exact ⟨a1, a2, by omega, a4, a5, a6⟩
theorem RD.congr {M G M' G' : gm_M} {d a : Nat} {q : Nat → Nat} {num : Nat → Nat → Nat} (h : RD M G d a q num) (h1 : ∀ c, c < 10 → M' 0 2 c = M 0 2 c ∧ M' 0 3 c = M 0 3 c) (h2 : ∀ k c, M' 10 k c = M 10 k c ∧ M' 11 k c = M 11 k c) (h3 : M' 2 10 0 = M 2 10 0 ∧ M' 2 11 0 = M 2 11 0) (h4 : ∀ k, M' 5 k 0 = M 5 k 0) (h5 : ∀ k i, k = 27 ∨ k = 28 ∨ k = 30 ∨ k = 31 ∨ k = 33 ∨ k = 34 ∨ k = 35 → G' k i 0 = G k i 0) (h6 : G' 0 28 0 = G 0 28 0 ∧ G' 0 31 0 = G 0 31 0) : RD M' G' d a q num := by
  obtain ⟨b1, b2, b3, b4, b5, b6, b7, b8, b9, b10, b11, b12⟩ := h
  refine ⟨fun c hc => ?_, fun c k hc hk => ?_, fun c hc hq => ?_, b4, fun n hn => ?_, ?_, ?_, b8, ?_, ?_, b11, ?_⟩
  · rw [(h1 c hc).1, h5 27 c (by decide)]; exact b1 c hc
  · exact (b2 c k hc hk).congr (h2 k c).1 (h2 k c).2 (h1 c hc).2 (h5 28 _ (by decide)) (h5 30 _ (by decide)) (h5 31 _ (by decide)) (Nat.le_refl d)
  · rw [(h1 c hc).2]; exact b3 c hc hq
  · rw [h5 31 n (by decide)]; exact b5 n hn
  · rw [h3.1]; exact b6
  · rw [h6.1]; exact b7
  · rw [h3.2]; exact b9
  · rw [h6.2]; exact b10
  · exact b12.congr h4 (fun k i hk => h5 k i (by omega))
theorem gm_uA {M : gm_M} {k f n k' f' n' : Nat} {x : Int32} : gm_up M k f n x k' f' n' = if k' = k ∧ f' = f ∧ n' = n then x else M k' f' n' := rfl
theorem RR.thrown {M G : gm_M} (h : RR M G) (x : Int32) : RR M (gm_up G 0 0 0 x) := by
  obtain ⟨h1, h2, h3, h4, d, a, q, num, h5⟩ := h
  refine ⟨fun u hu => (h1 u hu).congr (fun _ => rfl) (fun k hk _ => gm_un1 (by omega)) (gm_un2 (by decide)), fun c hc => (h2 c hc).congr (fun _ _ _ => rfl) (fun k hk _ _ => gm_un1 (by omega)) (by rw [gm_un1 (by decide)]), h3, h4.congr (fun _ _ _ _ _ => rfl) (fun f hf => gm_un2 (by omega)) (fun _ => rfl) (fun _ => gm_un1 (by decide)), d, a, q, num, h5.congr (fun _ _ => ⟨rfl, rfl⟩) (fun _ _ => ⟨rfl, rfl⟩) ⟨rfl, rfl⟩ (fun _ => rfl) (fun k i hk => gm_un1 (by omega)) ⟨gm_un2 (by decide), gm_un2 (by decide)⟩⟩
theorem RR.away {M G : gm_M} (h : RR M G) (u : Int32) : aW M u ↔ wM G u := by
  constructor
  · rintro (q | q)
    · exact Or.inl q
    · by_cases hb : bU u
      · exact Or.inl hb
      · exact Or.inr (by rw [← (h.1 _ (bU_ix hb).2).1]; exact q)
  · rintro (q | q)
    · exact Or.inl q
    · by_cases hb : bU u
      · exact Or.inl hb
      · exact Or.inr (by rw [(h.1 _ (bU_ix hb).2).1]; exact q)
/-- the number that a helper of the law answers -/
def IAE : String := "java/lang/IllegalArgumentException"
def cod1 (th : Option String) : Int32 := match th with
  | none => 0
  | some E => if E = "java/lang/IllegalArgumentException" then 1 else 2
def cod2 (th : Option String) : Int32 := match th with
  | none => 0
  | some E => if E = "java/lang/IndexOutOfBoundsException" then 1 else 2
theorem cod_cd {P Q : Prop} : cod1 (thF P "java/lang/IllegalArgumentException" (thF Q "java/lang/IllegalStateException" none)) = cdF P Q := by
  by_cases p : P
  · rw [thF_t p, cdF_1 p]; decide
  · by_cases q : Q
    · rw [thF_f p, thF_t q, cdF_2 p q]; decide
    · rw [thF_f p, thF_f q, cdF_0 p q]; decide
theorem cod_cd2 {P Q : Prop} : cod2 (thF P "java/lang/IndexOutOfBoundsException" (thF Q "java/lang/IllegalArgumentException" none)) = cdF P Q := by
  by_cases p : P
  · rw [thF_t p, cdF_1 p]; decide
  · by_cases q : Q
    · rw [thF_f p, thF_t q, cdF_2 p q]; decide
    · rw [thF_f p, thF_f q, cdF_0 p q]; decide
theorem cod_t {P : Prop} : cod1 (thF P "java/lang/IllegalArgumentException" none) = tF P := by
  by_cases p : P
  · rw [thF_t p, tF_t p]; decide
  · rw [thF_f p, tF_f p]; decide
theorem cdF_congr {P Q P' Q' : Prop} (h1 : P ↔ P') (h2 : ¬ P → (Q ↔ Q')) : cdF P Q = cdF P' Q' := by
  by_cases p : P
  · rw [cdF_1 p, cdF_1 (h1.mp p)]
  · have p' := fun z => p (h1.mpr z)
    by_cases q : Q
    · rw [cdF_2 p q, cdF_2 p' ((h2 p).mp q)]
    · rw [cdF_0 p q, cdF_0 p' (fun z => q ((h2 p).mpr z))]
theorem tF_congr {P P' : Prop} (h1 : P ↔ P') : tF P = tF P' := by
  by_cases p : P
  · rw [tF_t p, tF_t (h1.mp p)]
  · rw [tF_f p, tF_f (fun z => p (h1.mpr z))]
theorem RK.congr {M G M' G' : gm_M} {u : Nat} (h : RK M G u) (h7 : M' 1 7 u = M 1 7 u) (h8 : M' 1 8 u = M 1 8 u) (g : G' 14 u 0 = G 14 u 0) : RK M' G' u := by
  simp only [RK] at h ⊢
  rw [h7, h8, g]
  exact h
theorem RE.congr {M G M' G' : gm_M} {u : Nat} (h : RE M G u) (h3 : M' 1 3 u = M 1 3 u) (h5 : M' 1 5 u = M 1 5 u) (g2 : G' 2 u 0 = G 2 u 0) (g4 : G' 4 u 0 = G 4 u 0) (g6 : G' 6 u 0 = G 6 u 0) (g7 : G' 0 7 0 = G 0 7 0) : RE M' G' u := by
  simp only [RE, erM] at h ⊢
  rw [h3, h5, g2, g4, g6, g7]
  exact h
