/-! ===== the first memories ===== -/
def M0 : gm_M := fun k f _ => if k = 0 ∧ f = 7 then 1 else 0
def G0 : gm_M := fun _ _ _ => 0
theorem RR0 : RR M0 G0 := by
  refine ⟨fun u hu => ⟨rfl, Or.inl rfl, fun _ => ⟨rfl, rfl, rfl, rfl, rfl, rfl, rfl, rfl, rfl, rfl, rfl, rfl, rfl⟩, fun h => absurd rfl h⟩, fun c hc => ⟨rfl, rfl, rfl, rfl, rfl, rfl, fun h => absurd rfl h, fun _ => ⟨rfl, rfl, rfl, rfl, rfl, rfl, rfl, rfl⟩, 0, by decide, rfl⟩, ⟨fun _ => 0, fun _ => 0, fun c hc => ⟨rfl, rfl⟩, by decide⟩, ⟨rfl, Or.inl rfl, rfl, rfl, rfl, rfl, rfl, rfl, rfl, rfl, rfl⟩, 0, 0, fun _ => 0, fun _ _ => 0, ?_⟩
  refine ⟨fun c hc => ⟨rfl, Nat.zero_le _, rfl⟩, fun c k _ h => absurd h (Nat.not_lt_zero _), fun c hc _ => rfl, fun c k c' k' _ h => absurd h (Nat.not_lt_zero _), fun n hn => rfl, rfl, rfl, by decide, rfl, rfl, by decide, fun k h => absurd h (by omega)⟩
def adC (x k n : Nat) : Nat := match k with
  | 0 => x + 9 + 8 * (n / 2) + 3 * (n % 2)
  | 1 => x + 7 + 8 * n
  | 2 => x
  | 3 => x + 1
  | 4 => x + 2
  | 5 => x + 3
  | 6 => x + 4
  | 7 => x + 5
  | 8 => x + 6
  | 9 => x + 8 + 8 * n
  | 10 => x + 10 + 8 * (n / 2) + 3 * (n % 2)
  | _ => x + 11 + 8 * (n / 2) + 3 * (n % 2)
theorem oE_to {D : va_G} {ci N a : Nat} {F F' : Nat → Value} {H : Heap} (e : ∀ j, j < N → F j = F' j) (h : va_at D vwCl (a, oE ci N F) H) : va_at D vwCl (a, .inr (ci, (List.range N).map F')) H := by
  have e2 : (List.range N).map F = (List.range N).map F' := List.map_congr_left (fun j hj => e j (List.mem_range.mp hj))
  unfold oE at h
  rw [e2] at h
  exact h
theorem fE_c {cy : Nat → ClassId} {x n : Nat} (h : n < 10) (r : Nat) (hr : r < 3) : fE cy x 5 (9 + 8 * (n / 2) + 3 * (n % 2) + r) = ecE cy (x + 9 + 8 * (n / 2) + 3 * (n % 2)) r := by
  unfold fE
  rw [if_neg (by omega), if_neg (by omega), if_neg (by omega), if_neg (by omega), if_neg (by omega), if_neg (by omega), if_neg (by omega)]
  rw [show (9 + 8 * (n / 2) + 3 * (n % 2) + r - 7) / 8 = n / 2 by omega, show (9 + 8 * (n / 2) + 3 * (n % 2) + r - 7) % 8 = 2 + 3 * (n % 2) + r by omega]
  unfold uE
  rw [if_neg (by omega), if_neg (by omega)]
  rw [show (2 + 3 * (n % 2) + r - 2) / 3 = n % 2 by omega, show (2 + 3 * (n % 2) + r - 2) % 3 = r by omega]
  rw [show x + 7 + 8 * (n / 2) + 2 + 3 * (n % 2) = x + 9 + 8 * (n / 2) + 3 * (n % 2) by omega]
theorem fE_u {cy : Nat → ClassId} {x n : Nat} (h : n < 5) (r : Nat) (hr : r < 2) : fE cy x 5 (7 + 8 * n + r) = uE cy (x + 7 + 8 * n) 2 r := by
  unfold fE
  rw [if_neg (by omega), if_neg (by omega), if_neg (by omega), if_neg (by omega), if_neg (by omega), if_neg (by omega), if_neg (by omega)]
  rw [show (7 + 8 * n + r - 7) / 8 = n by omega, show (7 + 8 * n + r - 7) % 8 = r by omega]
theorem va_ad {D : va_G} {a b : Nat} {e : va_E} {H : Heap} (h : va_at D vwCl (a, e) H) (q : a = b) : va_at D vwCl (b, e) H := q ▸ h
theorem gm_P0C {D : va_G} {cy : Nat → ClassId} {x : Nat} {H : Heap} (h : True ∧ ∀ i, i < 47 → va_at D vwCl (x + i, fE cy x 5 i) H) : gm_P D lyC cy (adC x) M0 H := by
  intro k n hn
  match k, hn with
  | 0, hn =>
    have hn' : n < 10 := hn
    have q := h.2 (9 + 8 * (n / 2) + 3 * (n % 2) + 0) (by omega)
    rw [fE_c hn' 0 (by omega)] at q
    refine va_ad (oE_to (F' := gm_f srC (adC x) M0 0 n) (fun j hj => ?_) q) (by show _ = x + 9 + 8 * (n / 2) + 3 * (n % 2); omega)
    have hj' : j < 11 := hj
    clear hj
    match j, hj' with
    | 0, _ => exact congrArg Value.ref (show x + 9 + 8 * (n / 2) + 3 * (n % 2) + 1 = x + 10 + 8 * (n / 2) + 3 * (n % 2) by omega)
    | 1, _ => exact congrArg Value.ref (show x + 9 + 8 * (n / 2) + 3 * (n % 2) + 2 = x + 11 + 8 * (n / 2) + 3 * (n % 2) by omega)
    | 2, _ => rfl
    | 3, _ => rfl
    | 4, _ => rfl
    | 5, _ => rfl
    | 6, _ => rfl
    | 7, _ => rfl
    | 8, _ => rfl
    | 9, _ => rfl
    | 10, _ => rfl
    | j + 11, h => exact absurd h (by omega)
  | 1, hn =>
    have hn' : n < 5 := hn
    have q := h.2 (7 + 8 * n + 0) (by omega)
    rw [fE_u hn' 0 (by omega)] at q
    refine va_ad (oE_to (F' := gm_f srU (adC x) M0 1 n) (fun j hj => ?_) q) (by show _ = x + 7 + 8 * n; omega)
    have hj' : j < 15 := hj
    clear hj
    match j, hj' with
    | 0, _ => exact congrArg Value.ref (show x + 7 + 8 * n + 1 = x + 8 + 8 * n by omega)
    | 1, _ => rfl
    | 2, _ => rfl
    | 3, _ => rfl
    | 4, _ => rfl
    | 5, _ => rfl
    | 6, _ => rfl
    | 7, _ => rfl
    | 8, _ => rfl
    | 9, _ => rfl
    | 10, _ => rfl
    | 11, _ => rfl
    | 12, _ => rfl
    | 13, _ => rfl
    | 14, _ => rfl
    | j + 15, h => exact absurd h (by omega)
  | 2, hn =>
    have q := h.2 0 (by omega)
    refine oE_to (F := ffF x) (F' := gm_f srS (adC x) M0 2 n) (fun j hj => ?_) q
    have hj' : j < 16 := hj
    clear hj
    match j, hj' with
    | 0, _ => rfl
    | 1, _ => rfl
    | 2, _ => rfl
    | 3, _ => rfl
    | 4, _ => rfl
    | 5, _ => rfl
    | 6, _ => rfl
    | 7, _ => rfl
    | 8, _ => rfl
    | 9, _ => rfl
    | 10, _ => rfl
    | 11, _ => rfl
    | 12, _ => rfl
    | 13, _ => rfl
    | 14, _ => rfl
    | 15, _ => rfl
    | j + 16, h => exact absurd h (by omega)
  | 3, hn =>
    have hn' : n < 1 := hn
    have q := h.2 1 (by omega)
    refine aR_to (g := fun j => some (adC x 1 (5 * n + j))) (fun r hr => ?_) q
    rw [if_pos hr]
    show some (x + 7 + 8 * r) = some (x + 7 + 8 * (5 * n + r))
    rw [show n = 0 by omega, show 5 * 0 + r = r by omega]
  | 4, hn => exact h.2 2 (by omega)
  | 5, hn => exact h.2 3 (by omega)
  | 6, hn => exact h.2 4 (by omega)
  | 7, hn => exact h.2 5 (by omega)
  | 8, hn => exact h.2 6 (by omega)
  | 9, hn =>
    have hn' : n < 5 := hn
    have q := h.2 (7 + 8 * n + 1) (by omega)
    rw [fE_u hn' 1 (by omega)] at q
    refine va_ad (aR_to (g := fun j => some (adC x 0 (2 * n + j))) (fun r hr => ?_) q) (by show _ = x + 8 + 8 * n; omega)
    rw [if_pos hr]
    have hr' : r < 2 := hr
    show some (x + 7 + 8 * n + 2 + 3 * r) = some (x + 9 + 8 * ((2 * n + r) / 2) + 3 * ((2 * n + r) % 2))
    congr 1
    omega
  | 10, hn =>
    have hn' : n < 10 := hn
    have q := h.2 (9 + 8 * (n / 2) + 3 * (n % 2) + 1) (by omega)
    rw [fE_c hn' 1 (by omega)] at q
    exact va_ad (a := x + (9 + 8 * (n / 2) + 3 * (n % 2) + 1)) q (by show _ = x + 10 + 8 * (n / 2) + 3 * (n % 2); omega)
  | 11, hn =>
    have hn' : n < 10 := hn
    have q := h.2 (9 + 8 * (n / 2) + 3 * (n % 2) + 2) (by omega)
    rw [fE_c hn' 2 (by omega)] at q
    exact va_ad (a := x + (9 + 8 * (n / 2) + 3 * (n % 2) + 2)) q (by show _ = x + 11 + 8 * (n / 2) + 3 * (n % 2); omega)
  | k + 12, hn => exact absurd (show n < 0 from hn) (by omega)
theorem lyC_k {k n : Nat} (h : n < (lyC k).1) : k < 12 := by
  by_cases q : k < 12
  · exact q
  · obtain ⟨j, rfl⟩ : ∃ j, k = j + 12 := ⟨k - 12, by omega⟩
    exact absurd (show n < 0 from h) (by omega)
/-- the kind and the number, out of the place -/
def cdC (i : Nat) : Nat × Nat := if i = 0 then (2, 0) else if i < 7 then (i + 2, 0) else if (i - 7) % 8 = 0 then (1, (i - 7) / 8) else if (i - 7) % 8 = 1 then (9, (i - 7) / 8) else if ((i - 7) % 8 - 2) % 3 = 0 then (0, 2 * ((i - 7) / 8) + ((i - 7) % 8 - 2) / 3) else if ((i - 7) % 8 - 2) % 3 = 1 then (10, 2 * ((i - 7) / 8) + ((i - 7) % 8 - 2) / 3) else (11, 2 * ((i - 7) / 8) + ((i - 7) % 8 - 2) / 3)
theorem cdC_ok {x k n : Nat} (hn : n < (lyC k).1) : x ≤ adC x k n ∧ adC x k n < x + 47 ∧ cdC (adC x k n - x) = (k, n) := by
  have hk := lyC_k hn
  match k, hn, hk with
  | 0, hn, _ =>
    have hn' : n < 10 := hn
    show x ≤ x + 9 + 8 * (n / 2) + 3 * (n % 2) ∧ x + 9 + 8 * (n / 2) + 3 * (n % 2) < x + 47 ∧ cdC (x + 9 + 8 * (n / 2) + 3 * (n % 2) - x) = (0, n)
    refine ⟨by omega, by omega, ?_⟩
    rw [show x + 9 + 8 * (n / 2) + 3 * (n % 2) - x = 9 + 8 * (n / 2) + 3 * (n % 2) by omega]
    have e1 : n = 2 * (n / 2) + n % 2 := by omega
    have e2 : n % 2 < 2 := by omega
    generalize n / 2 = a at *
    generalize n % 2 = b at *
    subst e1
    unfold cdC
    rw [show (9 + 8 * a + 3 * b - 7) / 8 = a by omega, show (9 + 8 * a + 3 * b - 7) % 8 = 2 + 3 * b by omega]
    rw [if_neg (by omega), if_neg (by omega), if_neg (by omega), if_neg (by omega), if_pos (by omega)]
    congr 1; omega
  | 1, hn, _ =>
    have hn' : n < 5 := hn
    show x ≤ x + 7 + 8 * n ∧ x + 7 + 8 * n < x + 47 ∧ cdC (x + 7 + 8 * n - x) = (1, n)
    refine ⟨by omega, by omega, ?_⟩
    rw [show x + 7 + 8 * n - x = 7 + 8 * n by omega]

    unfold cdC
    rw [if_neg (by omega), if_neg (by omega), if_pos (by omega)]
    congr 1; omega
  | 2, hn, _ =>
    have hn' : n < 1 := hn
    show x ≤ x ∧ x < x + 47 ∧ cdC (x - x) = (2, n)
    refine ⟨by omega, by omega, ?_⟩
    rw [show x - x = 0 by omega]

    unfold cdC
    rw [if_pos (by omega)]
    congr 1; omega
  | 3, hn, _ =>
    have hn' : n < 1 := hn
    show x ≤ x + 1 ∧ x + 1 < x + 47 ∧ cdC (x + 1 - x) = (3, n)
    refine ⟨by omega, by omega, ?_⟩
    rw [show x + 1 - x = 1 by omega]

    unfold cdC
    rw [if_neg (by omega), if_pos (by omega)]
    congr 1 <;> omega
  | 4, hn, _ =>
    have hn' : n < 1 := hn
    show x ≤ x + 2 ∧ x + 2 < x + 47 ∧ cdC (x + 2 - x) = (4, n)
    refine ⟨by omega, by omega, ?_⟩
    rw [show x + 2 - x = 2 by omega]

    unfold cdC
    rw [if_neg (by omega), if_pos (by omega)]
    congr 1 <;> omega
  | 5, hn, _ =>
    have hn' : n < 1 := hn
    show x ≤ x + 3 ∧ x + 3 < x + 47 ∧ cdC (x + 3 - x) = (5, n)
    refine ⟨by omega, by omega, ?_⟩
    rw [show x + 3 - x = 3 by omega]

    unfold cdC
    rw [if_neg (by omega), if_pos (by omega)]
    congr 1 <;> omega
  | 6, hn, _ =>
    have hn' : n < 1 := hn
    show x ≤ x + 4 ∧ x + 4 < x + 47 ∧ cdC (x + 4 - x) = (6, n)
    refine ⟨by omega, by omega, ?_⟩
    rw [show x + 4 - x = 4 by omega]

    unfold cdC
    rw [if_neg (by omega), if_pos (by omega)]
    congr 1 <;> omega
  | 7, hn, _ =>
    have hn' : n < 1 := hn
    show x ≤ x + 5 ∧ x + 5 < x + 47 ∧ cdC (x + 5 - x) = (7, n)
    refine ⟨by omega, by omega, ?_⟩
    rw [show x + 5 - x = 5 by omega]

    unfold cdC
    rw [if_neg (by omega), if_pos (by omega)]
    congr 1 <;> omega
  | 8, hn, _ =>
    have hn' : n < 1 := hn
    show x ≤ x + 6 ∧ x + 6 < x + 47 ∧ cdC (x + 6 - x) = (8, n)
    refine ⟨by omega, by omega, ?_⟩
    rw [show x + 6 - x = 6 by omega]

    unfold cdC
    rw [if_neg (by omega), if_pos (by omega)]
    congr 1 <;> omega
  | 9, hn, _ =>
    have hn' : n < 5 := hn
    show x ≤ x + 8 + 8 * n ∧ x + 8 + 8 * n < x + 47 ∧ cdC (x + 8 + 8 * n - x) = (9, n)
    refine ⟨by omega, by omega, ?_⟩
    rw [show x + 8 + 8 * n - x = 8 + 8 * n by omega]

    unfold cdC
    rw [if_neg (by omega), if_neg (by omega), if_neg (by omega), if_pos (by omega)]
    congr 1; omega
  | 10, hn, _ =>
    have hn' : n < 10 := hn
    show x ≤ x + 10 + 8 * (n / 2) + 3 * (n % 2) ∧ x + 10 + 8 * (n / 2) + 3 * (n % 2) < x + 47 ∧ cdC (x + 10 + 8 * (n / 2) + 3 * (n % 2) - x) = (10, n)
    refine ⟨by omega, by omega, ?_⟩
    rw [show x + 10 + 8 * (n / 2) + 3 * (n % 2) - x = 10 + 8 * (n / 2) + 3 * (n % 2) by omega]
    have e1 : n = 2 * (n / 2) + n % 2 := by omega
    have e2 : n % 2 < 2 := by omega
    generalize n / 2 = a at *
    generalize n % 2 = b at *
    subst e1
    unfold cdC
    rw [show (10 + 8 * a + 3 * b - 7) / 8 = a by omega, show (10 + 8 * a + 3 * b - 7) % 8 = 3 + 3 * b by omega]
    rw [if_neg (by omega), if_neg (by omega), if_neg (by omega), if_neg (by omega), if_neg (by omega), if_pos (by omega)]
    congr 1; omega
  | 11, hn, _ =>
    have hn' : n < 10 := hn
    show x ≤ x + 11 + 8 * (n / 2) + 3 * (n % 2) ∧ x + 11 + 8 * (n / 2) + 3 * (n % 2) < x + 47 ∧ cdC (x + 11 + 8 * (n / 2) + 3 * (n % 2) - x) = (11, n)
    refine ⟨by omega, by omega, ?_⟩
    rw [show x + 11 + 8 * (n / 2) + 3 * (n % 2) - x = 11 + 8 * (n / 2) + 3 * (n % 2) by omega]
    have e1 : n = 2 * (n / 2) + n % 2 := by omega
    have e2 : n % 2 < 2 := by omega
    generalize n / 2 = a at *
    generalize n % 2 = b at *
    subst e1
    unfold cdC
    rw [show (11 + 8 * a + 3 * b - 7) / 8 = a by omega, show (11 + 8 * a + 3 * b - 7) % 8 = 4 + 3 * b by omega]
    rw [if_neg (by omega), if_neg (by omega), if_neg (by omega), if_neg (by omega), if_neg (by omega), if_neg (by omega)]
    congr 1; omega
  | k + 12, _, h => exact absurd h (by omega)
theorem gm_I0C (x : Nat) : gm_I lyC (adC x) := by
  intro k n k' n' h h' e
  have a := (cdC_ok (x := x) h).2.2
  have b := (cdC_ok (x := x) h').2.2
  rw [e] at a
  have c := a.symm.trans b
  exact ⟨congrArg Prod.fst c, congrArg Prod.snd c⟩
def adM (x k _n : Nat) : Nat := match k with
  | 0 => x
  | 2 => x + 1
  | 3 => x + 2
  | 4 => x + 3
  | 5 => x + 4
  | 6 => x + 5
  | 7 => x + 6
  | 9 => x + 7
  | 13 => x + 8
  | 14 => x + 9
  | 15 => x + 10
  | 16 => x + 11
  | 17 => x + 12
  | 18 => x + 13
  | 19 => x + 14
  | 20 => x + 15
  | 21 => x + 16
  | 22 => x + 17
  | 23 => x + 18
  | 24 => x + 19
  | 25 => x + 20
  | 26 => x + 21
  | 27 => x + 22
  | 28 => x + 23
  | 30 => x + 24
  | 31 => x + 25
  | 33 => x + 26
  | 34 => x + 27
  | 35 => x + 28
  | 40 => x + 29
  | 41 => x + 30
  | _ => x
def cdM (i : Nat) : Nat := match i with
  | 0 => 0
  | 1 => 2
  | 2 => 3
  | 3 => 4
  | 4 => 5
  | 5 => 6
  | 6 => 7
  | 7 => 9
  | 8 => 13
  | 9 => 14
  | 10 => 15
  | 11 => 16
  | 12 => 17
  | 13 => 18
  | 14 => 19
  | 15 => 20
  | 16 => 21
  | 17 => 22
  | 18 => 23
  | 19 => 24
  | 20 => 25
  | 21 => 26
  | 22 => 27
  | 23 => 28
  | 24 => 30
  | 25 => 31
  | 26 => 33
  | 27 => 34
  | 28 => 35
  | 29 => 40
  | 30 => 41
  | _ => 0
theorem gm_P0M {D : va_G} {cy : Nat → ClassId} {x : Nat} {H : Heap} (h : True ∧ ∀ i, i < 31 → va_at D vwCl (x + i, mE cy x i) H) : gm_P D lyM cy (adM x) G0 H := by
  intro k n hn
  match k, hn with
  | 0, hn =>
    have q := h.2 0 (by omega)
    refine oE_to (F := fmF x) (F' := gm_f srM (adM x) G0 0 n) (fun j hj => ?_) q
    have hj' : j < 41 := hj
    clear hj
    match j, hj' with
    | 0, _ => rfl
    | 1, _ => rfl
    | 2, _ => rfl
    | 3, _ => rfl
    | 4, _ => rfl
    | 5, _ => rfl
    | 6, _ => rfl
    | 7, _ => rfl
    | 8, _ => rfl
    | 9, _ => rfl
    | 10, _ => rfl
    | 11, _ => rfl
    | 12, _ => rfl
    | 13, _ => rfl
    | 14, _ => rfl
    | 15, _ => rfl
    | 16, _ => rfl
    | 17, _ => rfl
    | 18, _ => rfl
    | 19, _ => rfl
    | 20, _ => rfl
    | 21, _ => rfl
    | 22, _ => rfl
    | 23, _ => rfl
    | 24, _ => rfl
    | 25, _ => rfl
    | 26, _ => rfl
    | 27, _ => rfl
    | 28, _ => rfl
    | 29, _ => rfl
    | 30, _ => rfl
    | 31, _ => rfl
    | 32, _ => rfl
    | 33, _ => rfl
    | 34, _ => rfl
    | 35, _ => rfl
    | 36, _ => rfl
    | 37, _ => rfl
    | 38, _ => rfl
    | 39, _ => rfl
    | 40, _ => rfl
    | j + 41, h => exact absurd h (by omega)
  | 1, hn => exact absurd (show n < 0 from hn) (by omega)
  | 2, hn => exact h.2 1 (by omega)
  | 3, hn => exact h.2 2 (by omega)
  | 4, hn => exact h.2 3 (by omega)
  | 5, hn => exact h.2 4 (by omega)
  | 6, hn => exact h.2 5 (by omega)
  | 7, hn => exact h.2 6 (by omega)
  | 8, hn => exact absurd (show n < 0 from hn) (by omega)
  | 9, hn => exact h.2 7 (by omega)
  | 10, hn => exact absurd (show n < 0 from hn) (by omega)
  | 11, hn => exact absurd (show n < 0 from hn) (by omega)
  | 12, hn => exact absurd (show n < 0 from hn) (by omega)
  | 13, hn => exact h.2 8 (by omega)
  | 14, hn => exact h.2 9 (by omega)
  | 15, hn => exact h.2 10 (by omega)
  | 16, hn => exact h.2 11 (by omega)
  | 17, hn => exact h.2 12 (by omega)
  | 18, hn => exact h.2 13 (by omega)
  | 19, hn => exact h.2 14 (by omega)
  | 20, hn => exact h.2 15 (by omega)
  | 21, hn => exact h.2 16 (by omega)
  | 22, hn => exact h.2 17 (by omega)
  | 23, hn => exact h.2 18 (by omega)
  | 24, hn => exact h.2 19 (by omega)
  | 25, hn => exact h.2 20 (by omega)
  | 26, hn => exact h.2 21 (by omega)
  | 27, hn => exact h.2 22 (by omega)
  | 28, hn => exact h.2 23 (by omega)
  | 29, hn => exact absurd (show n < 0 from hn) (by omega)
  | 30, hn => exact h.2 24 (by omega)
  | 31, hn => exact h.2 25 (by omega)
  | 32, hn => exact absurd (show n < 0 from hn) (by omega)
  | 33, hn => exact h.2 26 (by omega)
  | 34, hn => exact h.2 27 (by omega)
  | 35, hn => exact h.2 28 (by omega)
  | 36, hn => exact absurd (show n < 0 from hn) (by omega)
  | 37, hn => exact absurd (show n < 0 from hn) (by omega)
  | 38, hn => exact absurd (show n < 0 from hn) (by omega)
  | 39, hn => exact absurd (show n < 0 from hn) (by omega)
  | 40, hn => exact h.2 29 (by omega)
  | 41, hn => exact h.2 30 (by omega)
  | k + 42, hn => exact absurd (show n < 0 from hn) (by omega)
theorem cdM_ok {x k n : Nat} (hn : n < (lyM k).1) : x ≤ adM x k n ∧ adM x k n < x + 31 ∧ cdM (adM x k n - x) = k ∧ n = 0 := by
  match k, hn with
  | 0, hn =>
    have hn' : n < 1 := hn
    show x ≤ x ∧ x < x + 31 ∧ cdM (x - x) = 0 ∧ n = 0
    rw [show x - x = 0 by omega]
    exact ⟨by omega, by omega, rfl, by omega⟩
  | 1, hn => exact absurd (show n < 0 from hn) (by omega)
  | 2, hn =>
    have hn' : n < 1 := hn
    show x ≤ x + 1 ∧ x + 1 < x + 31 ∧ cdM (x + 1 - x) = 2 ∧ n = 0
    rw [show x + 1 - x = 1 by omega]
    exact ⟨by omega, by omega, rfl, by omega⟩
  | 3, hn =>
    have hn' : n < 1 := hn
    show x ≤ x + 2 ∧ x + 2 < x + 31 ∧ cdM (x + 2 - x) = 3 ∧ n = 0
    rw [show x + 2 - x = 2 by omega]
    exact ⟨by omega, by omega, rfl, by omega⟩
  | 4, hn =>
    have hn' : n < 1 := hn
    show x ≤ x + 3 ∧ x + 3 < x + 31 ∧ cdM (x + 3 - x) = 4 ∧ n = 0
    rw [show x + 3 - x = 3 by omega]
    exact ⟨by omega, by omega, rfl, by omega⟩
  | 5, hn =>
    have hn' : n < 1 := hn
    show x ≤ x + 4 ∧ x + 4 < x + 31 ∧ cdM (x + 4 - x) = 5 ∧ n = 0
    rw [show x + 4 - x = 4 by omega]
    exact ⟨by omega, by omega, rfl, by omega⟩
  | 6, hn =>
    have hn' : n < 1 := hn
    show x ≤ x + 5 ∧ x + 5 < x + 31 ∧ cdM (x + 5 - x) = 6 ∧ n = 0
    rw [show x + 5 - x = 5 by omega]
    exact ⟨by omega, by omega, rfl, by omega⟩
  | 7, hn =>
    have hn' : n < 1 := hn
    show x ≤ x + 6 ∧ x + 6 < x + 31 ∧ cdM (x + 6 - x) = 7 ∧ n = 0
    rw [show x + 6 - x = 6 by omega]
    exact ⟨by omega, by omega, rfl, by omega⟩
  | 8, hn => exact absurd (show n < 0 from hn) (by omega)
  | 9, hn =>
    have hn' : n < 1 := hn
    show x ≤ x + 7 ∧ x + 7 < x + 31 ∧ cdM (x + 7 - x) = 9 ∧ n = 0
    rw [show x + 7 - x = 7 by omega]
    exact ⟨by omega, by omega, rfl, by omega⟩
  | 10, hn => exact absurd (show n < 0 from hn) (by omega)
  | 11, hn => exact absurd (show n < 0 from hn) (by omega)
  | 12, hn => exact absurd (show n < 0 from hn) (by omega)
  | 13, hn =>
    have hn' : n < 1 := hn
    show x ≤ x + 8 ∧ x + 8 < x + 31 ∧ cdM (x + 8 - x) = 13 ∧ n = 0
    rw [show x + 8 - x = 8 by omega]
    exact ⟨by omega, by omega, rfl, by omega⟩
  | 14, hn =>
    have hn' : n < 1 := hn
    show x ≤ x + 9 ∧ x + 9 < x + 31 ∧ cdM (x + 9 - x) = 14 ∧ n = 0
    rw [show x + 9 - x = 9 by omega]
    exact ⟨by omega, by omega, rfl, by omega⟩
  | 15, hn =>
    have hn' : n < 1 := hn
    show x ≤ x + 10 ∧ x + 10 < x + 31 ∧ cdM (x + 10 - x) = 15 ∧ n = 0
    rw [show x + 10 - x = 10 by omega]
    exact ⟨by omega, by omega, rfl, by omega⟩
  | 16, hn =>
    have hn' : n < 1 := hn
    show x ≤ x + 11 ∧ x + 11 < x + 31 ∧ cdM (x + 11 - x) = 16 ∧ n = 0
    rw [show x + 11 - x = 11 by omega]
    exact ⟨by omega, by omega, rfl, by omega⟩
  | 17, hn =>
    have hn' : n < 1 := hn
    show x ≤ x + 12 ∧ x + 12 < x + 31 ∧ cdM (x + 12 - x) = 17 ∧ n = 0
    rw [show x + 12 - x = 12 by omega]
    exact ⟨by omega, by omega, rfl, by omega⟩
  | 18, hn =>
    have hn' : n < 1 := hn
    show x ≤ x + 13 ∧ x + 13 < x + 31 ∧ cdM (x + 13 - x) = 18 ∧ n = 0
    rw [show x + 13 - x = 13 by omega]
    exact ⟨by omega, by omega, rfl, by omega⟩
  | 19, hn =>
    have hn' : n < 1 := hn
    show x ≤ x + 14 ∧ x + 14 < x + 31 ∧ cdM (x + 14 - x) = 19 ∧ n = 0
    rw [show x + 14 - x = 14 by omega]
    exact ⟨by omega, by omega, rfl, by omega⟩
  | 20, hn =>
    have hn' : n < 1 := hn
    show x ≤ x + 15 ∧ x + 15 < x + 31 ∧ cdM (x + 15 - x) = 20 ∧ n = 0
    rw [show x + 15 - x = 15 by omega]
    exact ⟨by omega, by omega, rfl, by omega⟩
  | 21, hn =>
    have hn' : n < 1 := hn
    show x ≤ x + 16 ∧ x + 16 < x + 31 ∧ cdM (x + 16 - x) = 21 ∧ n = 0
    rw [show x + 16 - x = 16 by omega]
    exact ⟨by omega, by omega, rfl, by omega⟩
  | 22, hn =>
    have hn' : n < 1 := hn
    show x ≤ x + 17 ∧ x + 17 < x + 31 ∧ cdM (x + 17 - x) = 22 ∧ n = 0
    rw [show x + 17 - x = 17 by omega]
    exact ⟨by omega, by omega, rfl, by omega⟩
  | 23, hn =>
    have hn' : n < 1 := hn
    show x ≤ x + 18 ∧ x + 18 < x + 31 ∧ cdM (x + 18 - x) = 23 ∧ n = 0
    rw [show x + 18 - x = 18 by omega]
    exact ⟨by omega, by omega, rfl, by omega⟩
  | 24, hn =>
    have hn' : n < 1 := hn
    show x ≤ x + 19 ∧ x + 19 < x + 31 ∧ cdM (x + 19 - x) = 24 ∧ n = 0
    rw [show x + 19 - x = 19 by omega]
    exact ⟨by omega, by omega, rfl, by omega⟩
  | 25, hn =>
    have hn' : n < 1 := hn
    show x ≤ x + 20 ∧ x + 20 < x + 31 ∧ cdM (x + 20 - x) = 25 ∧ n = 0
    rw [show x + 20 - x = 20 by omega]
    exact ⟨by omega, by omega, rfl, by omega⟩
  | 26, hn =>
    have hn' : n < 1 := hn
    show x ≤ x + 21 ∧ x + 21 < x + 31 ∧ cdM (x + 21 - x) = 26 ∧ n = 0
    rw [show x + 21 - x = 21 by omega]
    exact ⟨by omega, by omega, rfl, by omega⟩
  | 27, hn =>
    have hn' : n < 1 := hn
    show x ≤ x + 22 ∧ x + 22 < x + 31 ∧ cdM (x + 22 - x) = 27 ∧ n = 0
    rw [show x + 22 - x = 22 by omega]
    exact ⟨by omega, by omega, rfl, by omega⟩
  | 28, hn =>
    have hn' : n < 1 := hn
    show x ≤ x + 23 ∧ x + 23 < x + 31 ∧ cdM (x + 23 - x) = 28 ∧ n = 0
    rw [show x + 23 - x = 23 by omega]
    exact ⟨by omega, by omega, rfl, by omega⟩
  | 29, hn => exact absurd (show n < 0 from hn) (by omega)
  | 30, hn =>
    have hn' : n < 1 := hn
    show x ≤ x + 24 ∧ x + 24 < x + 31 ∧ cdM (x + 24 - x) = 30 ∧ n = 0
    rw [show x + 24 - x = 24 by omega]
    exact ⟨by omega, by omega, rfl, by omega⟩
  | 31, hn =>
    have hn' : n < 1 := hn
    show x ≤ x + 25 ∧ x + 25 < x + 31 ∧ cdM (x + 25 - x) = 31 ∧ n = 0
    rw [show x + 25 - x = 25 by omega]
    exact ⟨by omega, by omega, rfl, by omega⟩
  | 32, hn => exact absurd (show n < 0 from hn) (by omega)
  | 33, hn =>
    have hn' : n < 1 := hn
    show x ≤ x + 26 ∧ x + 26 < x + 31 ∧ cdM (x + 26 - x) = 33 ∧ n = 0
    rw [show x + 26 - x = 26 by omega]
    exact ⟨by omega, by omega, rfl, by omega⟩
  | 34, hn =>
    have hn' : n < 1 := hn
    show x ≤ x + 27 ∧ x + 27 < x + 31 ∧ cdM (x + 27 - x) = 34 ∧ n = 0
    rw [show x + 27 - x = 27 by omega]
    exact ⟨by omega, by omega, rfl, by omega⟩
  | 35, hn =>
    have hn' : n < 1 := hn
    show x ≤ x + 28 ∧ x + 28 < x + 31 ∧ cdM (x + 28 - x) = 35 ∧ n = 0
    rw [show x + 28 - x = 28 by omega]
    exact ⟨by omega, by omega, rfl, by omega⟩
  | 36, hn => exact absurd (show n < 0 from hn) (by omega)
  | 37, hn => exact absurd (show n < 0 from hn) (by omega)
  | 38, hn => exact absurd (show n < 0 from hn) (by omega)
  | 39, hn => exact absurd (show n < 0 from hn) (by omega)
  | 40, hn =>
    have hn' : n < 1 := hn
    show x ≤ x + 29 ∧ x + 29 < x + 31 ∧ cdM (x + 29 - x) = 40 ∧ n = 0
    rw [show x + 29 - x = 29 by omega]
    exact ⟨by omega, by omega, rfl, by omega⟩
  | 41, hn =>
    have hn' : n < 1 := hn
    show x ≤ x + 30 ∧ x + 30 < x + 31 ∧ cdM (x + 30 - x) = 41 ∧ n = 0
    rw [show x + 30 - x = 30 by omega]
    exact ⟨by omega, by omega, rfl, by omega⟩
  | k + 42, hn => exact absurd (show n < 0 from hn) (by omega)
theorem gm_I0M (x : Nat) : gm_I lyM (adM x) := by
  intro k n k' n' h h' e
  have a := (cdM_ok (x := x) h).2.2
  have b := (cdM_ok (x := x) h').2.2
  rw [e] at a
  exact ⟨a.1.symm.trans b.1, a.2.trans b.2.symm⟩
