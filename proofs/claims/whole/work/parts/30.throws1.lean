/-! ===== the class: the calls that may throw ===== -/
noncomputable def thF (P : Prop) (E : String) (r : Option String) : Option String := @ite _ P (Classical.propDecidable P) (some E) r
theorem thF_t {P : Prop} {E : String} {r : Option String} (h : P) : thF P E r = some E := if_pos h
theorem thF_f {P : Prop} {E : String} {r : Option String} (h : ¬ P) : thF P E r = r := if_neg h
theorem thF_some {P : Prop} {E E' : String} (h : thF P E none = some E') : P ∧ E = E' := by
  by_cases hp : P
  · rw [thF_t hp] at h; exact ⟨hp, Option.some.inj h⟩
  · rw [thF_f hp] at h; cases h
theorem thF_none {P : Prop} {E : String} (h : thF P E none = none) : ¬ P := fun hp => by rw [thF_t hp] at h; cases h
theorem SX.nx {Ly : gm_L} {X : gm_X} {th : Option String} {M : gm_M} {mc ms : Nat} (h : SX Ly X th M mc ms) : NX X := by
  obtain ⟨p, l, e, R, s, m, args, below, meth, c, ⟨D, cy, ad⟩, A, Q⟩ := X
  exact h.2.2.1
abbrev uN (u : Int32) : Nat := u.toNatClampNeg
abbrev bU (u : Int32) : Prop := u < 0 ∨ ¬ u < 5
abbrev aW (M : gm_M) (u : Int32) : Prop := bU u ∨ M 1 1 (uN u) = 0
abbrev bC (c : Int32) : Prop := c < 0 ∨ ¬ c < 2
theorem ixN {u : Int32} (n : Nat) (hn : n < 2 ^ 31) (h1 : ¬ u < 0) (h2 : u < nI n) : u = nI (uN u) ∧ uN u < n := by
  obtain ⟨j, hj, rfl⟩ := nI_of h1
  rw [show uN (nI j) = j from nI_clamp hj]
  exact ⟨rfl, (nI_ltI hj hn).mp h2⟩
theorem bU_ix {u : Int32} (h : ¬ bU u) : u = nI (uN u) ∧ uN u < 5 := ixN 5 (by decide) (fun q => h (Or.inl q)) (Classical.byContradiction (fun q => h (Or.inr q)))
theorem bC_ix {u : Int32} (h : ¬ bC u) : u = nI (uN u) ∧ uN u < 2 := ixN 2 (by decide) (fun q => h (Or.inl q)) (Classical.byContradiction (fun q => h (Or.inr q)))
theorem swOut (x : Int32) (n : Nat) (hn : n < 2 ^ 31) (h : ∀ k, k ≤ n → ¬ x = nI k) : x.toInt < 0 ∨ (n : Int) < x.toInt := by
  by_cases h0 : x < 0
  · left
    have := Int32.lt_iff_toInt_lt.mp h0
    simpa using this
  · right
    obtain ⟨j, hj, rfl⟩ := nI_of h0
    rw [nI_toInt hj]
    rcases Nat.lt_or_ge n j with q | q
    · omega
    · exact absurd rfl (h j q)
theorem kwX2_numbered_2 : ∀ w ∈ wsX20, w ∈ wsX2_numbered := by decide +kernel
theorem lkX2_numbered_11 : Cond.fieldLink RX2 11 "SharedFibre" "units" "[LSharedFibre$Unit;" ∈ wsX2_numbered := by decide +kernel
theorem ltX2_numbered_Ii : Cond.initialized "java/lang/IllegalArgumentException" ∈ wsX2_numbered := by decide +kernel
theorem ltX2_numbered_Ik : Cond.classLink RX2 37 "java/lang/IllegalArgumentException" ∈ wsX2_numbered := by decide +kernel
theorem ltX2_numbered_Ig : ∀ w ∈ (xW 41 "java/lang/IllegalArgumentException").filter goodWord, w ∈ wsX2_numbered := by
  intro w h
  first | exact List.mem_cons_of_mem _ (List.mem_append_right _ h) | exact List.mem_cons_of_mem _ (List.mem_append_left _ (List.mem_append_right _ h)) | exact List.mem_cons_of_mem _ (List.mem_append_left _ (List.mem_append_left _ (List.mem_append_right _ h)))
set_option maxHeartbeats 4000000 in
set_option maxRecDepth 100000 in
/-- X2_numbered -/
theorem c_X2_numbered (M : gm_M) (u : Int32) : KX lyC yX2_numbered wsX2_numbered ({ frames := 6, cells := 1, slots := 6, locals := 90 }) (fun ad => [.ref (ad 2 0), .int u]) M (thF (bU u) "java/lang/IllegalArgumentException" none) (fun ad => some (.ref (ad 1 (uN u)))) (M) 1 6 := by
  refine KX.of_a (by decide) rfl rfl (fun _ => by simp) (fun _ => by simp [Value.category]) (rv := fun ad => .ref (ad 1 (uN u))) (fun ad => Or.inr ⟨_, rfl⟩) ?_
  intro X hC hR hSX hE hT
  have hX := hSX.nx
  simp only [List.map_cons, List.map_nil, List.cons_append, List.nil_append, List.length_cons, List.length_nil, List.replicate, Nat.reduceAdd, Nat.reduceSub]
  refine go_iload_n hC dX2_numbered_0 rfl ?_
  refine go_if_lt hC 9 dX2_numbered_1 (by decide) (fun h1 => ?_) (fun h1 => ?_)
  ·
    exact hT _ _ _ _ _ _ "java/lang/IllegalArgumentException" "unit" _ (thF_t (by first | exact Or.inl h1 | exact Or.inr h6)) (by decide) (by decide) (by decide) (by decide) ltX2_numbered_Ik ltX2_numbered_Ii ltX2_numbered_Ig rfl (by decide) (by decide) (by decide) (by decide) dX2_numbered_9 dX2_numbered_12 dX2_numbered_13 dX2_numbered_15 dX2_numbered_18
  ·
    refine go_iload_n hC dX2_numbered_4 rfl ?_
    refine go_iconst (v := 5) hC dX2_numbered_5 (by decide) ?_
    refine go_icmp_lt hC 19 dX2_numbered_6 (by decide) (fun h6 => ?_) (fun h6 => ?_)
    ·
      have hnb : ¬ bU u := fun q => q.elim h1 (fun q => q h6)
      obtain ⟨hue, hu5⟩ := bU_ix hnb
      refine go_aload_n hC dX2_numbered_19 rfl ?_
      refine go_getr (ci := 2) hC 0 kwX2_numbered_2 rfl rfl (by decide) rfl lkX2_numbered_11 (by first | decide | (show _ < 5; omega) | (show _ < 10; omega) | omega) dX2_numbered_20 ?_
      refine go_iload_n hC dX2_numbered_23 rfl ?_
      refine go_aald hC rfl (fun _ => rfl) (by first | decide | (show _ < 5; omega) | (show _ < 10; omega) | omega) (gm_in hue (by omega) (by decide)) (gm_cu hue (by omega)) dX2_numbered_24 ?_
      refine go_cast ?_ ?_ (hE _ _ _ _ (by decide) (by decide) (thF_f hnb) dX2_numbered_25)
      · first | rfl | (simp [*]; done)
      · first | rfl | (simp [*]; done)
    ·
      exact hT _ _ _ _ _ _ "java/lang/IllegalArgumentException" "unit" _ (thF_t (by first | exact Or.inl h1 | exact Or.inr h6)) (by decide) (by decide) (by decide) (by decide) ltX2_numbered_Ik ltX2_numbered_Ii ltX2_numbered_Ig rfl (by decide) (by decide) (by decide) (by decide) dX2_numbered_9 dX2_numbered_12 dX2_numbered_13 dX2_numbered_15 dX2_numbered_18
theorem kwX2_plugged_1 : ∀ w ∈ wsX10, w ∈ wsX2_plugged := by decide +kernel
theorem lkX2_plugged_58 : Cond.fieldLink RX2 58 "SharedFibre$Unit" "state" "I" ∈ wsX2_plugged := by decide +kernel
theorem ltX2_plugged_Ii : Cond.initialized "java/lang/IllegalArgumentException" ∈ wsX2_plugged := by decide +kernel
theorem ltX2_plugged_Ik : Cond.classLink RX2 37 "java/lang/IllegalArgumentException" ∈ wsX2_plugged := by decide +kernel
theorem ltX2_plugged_Ig : ∀ w ∈ (xW 41 "java/lang/IllegalArgumentException").filter goodWord, w ∈ wsX2_plugged := by
  intro w h
  first | exact List.mem_cons_of_mem _ (List.mem_append_right _ h) | exact List.mem_cons_of_mem _ (List.mem_append_left _ (List.mem_append_right _ h)) | exact List.mem_cons_of_mem _ (List.mem_append_left _ (List.mem_append_left _ (List.mem_append_right _ h)))
set_option maxHeartbeats 4000000 in
set_option maxRecDepth 100000 in
/-- X2_plugged -/
theorem c_X2_plugged (M : gm_M) (u : Int32) : KX lyC yX2_plugged wsX2_plugged ({ frames := 7, cells := 2, slots := 12, locals := 111 }) (fun ad => [.ref (ad 2 0), .int u]) M (thF (aW M u) "java/lang/IllegalArgumentException" none) (fun ad => some (.ref (ad 1 (uN u)))) (M) 2 12 := by
  refine KX.of_a (by decide) rfl rfl (fun _ => by simp) (fun _ => by simp [Value.category]) (rv := fun ad => .ref (ad 1 (uN u))) (fun ad => Or.inr ⟨_, rfl⟩) ?_
  intro X hC hR hSX hE hT
  have hX := hSX.nx
  simp only [List.map_cons, List.map_nil, List.cons_append, List.nil_append, List.length_cons, List.length_nil, List.replicate, Nat.reduceAdd, Nat.reduceSub]
  refine go_aload_n hC dX2_plugged_0 rfl ?_
  refine go_iload_n hC dX2_plugged_1 rfl ?_
  refine go_callVX (n := 1) (k0 := 2) (n0 := 0) hC hSX (c_X2_numbered M u) gX2_plugged_X2_numbered rfl (by decide +kernel) ⟨rfl, rfl⟩ (by rw [hR]; exact ⟨by decide, by decide⟩) (by rw [hR]; exact ⟨by decide, by decide⟩) rfl (by decide) (by decide) rfl rfl (by first | decide | (show _ < 5; omega) | (show _ < 10; omega) | omega) rfl rfl rfl (Nat.le_of_ble_eq_true rfl) dX2_plugged_2 (fun E h => by obtain ⟨hp, rfl⟩ := thF_some h; exact thF_t (Or.inl hp)) (fun hn2 => ?_)
  simp only [gm_r0, gm_r1]
  obtain ⟨hue, hu5⟩ := bU_ix (thF_none hn2)
  refine go_astore_n hC 2 dX2_plugged_5 rfl (Nat.le_of_ble_eq_true rfl) ?_
  simp only [gm_s0, gm_s1]
  refine go_aload_n hC dX2_plugged_6 rfl ?_
  refine go_geti (ci := 1) hC 1 kwX2_plugged_1 rfl rfl (by decide) rfl lkX2_plugged_58 (by first | decide | (show _ < 5; omega) | (show _ < 10; omega) | omega) dX2_plugged_7 ?_
  refine go_if_ne hC 23 dX2_plugged_10 (by decide) (fun h10 => ?_) (fun h10 => ?_)
  ·
    refine go_aload_n hC dX2_plugged_23 rfl ?_
    refine go_cast ?_ ?_ (hE _ _ _ _ (by decide) (by decide) (thF_f (fun q => q.elim (thF_none hn2) h10)) dX2_plugged_24)
    · first | rfl | (simp [*]; done)
    · first | rfl | (simp [*]; done)
  ·
    exact hT _ _ _ _ _ _ "java/lang/IllegalArgumentException" "unit is away" _ (thF_t (Or.inr h10)) (by decide) (by decide) (by decide) (by decide) ltX2_plugged_Ik ltX2_plugged_Ii ltX2_plugged_Ig rfl (by decide) (by decide) (by decide) (by decide) dX2_plugged_13 dX2_plugged_16 dX2_plugged_17 dX2_plugged_19 dX2_plugged_22
theorem kwX2_containerOf_1 : ∀ w ∈ wsX10, w ∈ wsX2_containerOf := by decide +kernel
theorem lkX2_containerOf_240 : Cond.fieldLink RX2 240 "SharedFibre$Unit" "containers" "[LSharedFibre$Container;" ∈ wsX2_containerOf := by decide +kernel
theorem ltX2_containerOf_Ii : Cond.initialized "java/lang/IllegalArgumentException" ∈ wsX2_containerOf := by decide +kernel
theorem ltX2_containerOf_Ik : Cond.classLink RX2 37 "java/lang/IllegalArgumentException" ∈ wsX2_containerOf := by decide +kernel
theorem ltX2_containerOf_Ig : ∀ w ∈ (xW 41 "java/lang/IllegalArgumentException").filter goodWord, w ∈ wsX2_containerOf := by
  intro w h
  first | exact List.mem_cons_of_mem _ (List.mem_append_right _ h) | exact List.mem_cons_of_mem _ (List.mem_append_left _ (List.mem_append_right _ h)) | exact List.mem_cons_of_mem _ (List.mem_append_left _ (List.mem_append_left _ (List.mem_append_right _ h)))
set_option maxHeartbeats 4000000 in
set_option maxRecDepth 100000 in
/-- X2_containerOf -/
theorem c_X2_containerOf (M : gm_M) (n : Nat) (hn : n < 5) (c : Int32) : KX lyC yX2_containerOf wsX2_containerOf ({ frames := 6, cells := 1, slots := 6, locals := 90 }) (fun ad => [.ref (ad 1 n), .int c]) M (thF (bC c) "java/lang/IllegalArgumentException" none) (fun ad => some (.ref (ad 0 (2 * n + uN c)))) (M) 1 6 := by
  refine KX.of_a (by decide) rfl rfl (fun _ => by simp) (fun _ => by simp [Value.category]) (rv := fun ad => .ref (ad 0 (2 * n + uN c))) (fun ad => Or.inr ⟨_, rfl⟩) ?_
  intro X hC hR hSX hE hT
  have hX := hSX.nx
  simp only [List.map_cons, List.map_nil, List.cons_append, List.nil_append, List.length_cons, List.length_nil, List.replicate, Nat.reduceAdd, Nat.reduceSub]
  refine go_iload_n hC dX2_containerOf_0 rfl ?_
  refine go_if_lt hC 9 dX2_containerOf_1 (by decide) (fun h1 => ?_) (fun h1 => ?_)
  ·
    exact hT _ _ _ _ _ _ "java/lang/IllegalArgumentException" "container" _ (thF_t (by first | exact Or.inl h1 | exact Or.inr h6)) (by decide) (by decide) (by decide) (by decide) ltX2_containerOf_Ik ltX2_containerOf_Ii ltX2_containerOf_Ig rfl (by decide) (by decide) (by decide) (by decide) dX2_containerOf_9 dX2_containerOf_12 dX2_containerOf_13 dX2_containerOf_15 dX2_containerOf_18
  ·
    refine go_iload_n hC dX2_containerOf_4 rfl ?_
    refine go_iconst (v := 2) hC dX2_containerOf_5 (by decide) ?_
    refine go_icmp_lt hC 19 dX2_containerOf_6 (by decide) (fun h6 => ?_) (fun h6 => ?_)
    ·
      have hnb : ¬ bC c := fun q => q.elim h1 (fun q => q h6)
      obtain ⟨hce, hc2⟩ := bC_ix hnb
      refine go_aload_n hC dX2_containerOf_19 rfl ?_
      refine go_getr (ci := 1) hC 0 kwX2_containerOf_1 rfl rfl (by decide) rfl lkX2_containerOf_240 (by first | decide | (show _ < 5; omega) | (show _ < 10; omega) | omega) dX2_containerOf_20 ?_
      refine go_iload_n hC dX2_containerOf_23 rfl ?_
      refine go_aald hC rfl (fun _ => rfl) (by first | decide | (show _ < 5; omega) | (show _ < 10; omega) | omega) (gm_in hce (by omega) (by decide)) (gm_cl5 hce (by omega)) dX2_containerOf_24 ?_
      refine go_cast ?_ ?_ (hE _ _ _ _ (by decide) (by decide) (thF_f hnb) dX2_containerOf_25)
      · first | rfl | (simp [*]; done)
      · first | rfl | (simp [*]; done)
    ·
      exact hT _ _ _ _ _ _ "java/lang/IllegalArgumentException" "container" _ (thF_t (by first | exact Or.inl h1 | exact Or.inr h6)) (by decide) (by decide) (by decide) (by decide) ltX2_containerOf_Ik ltX2_containerOf_Ii ltX2_containerOf_Ig rfl (by decide) (by decide) (by decide) (by decide) dX2_containerOf_9 dX2_containerOf_12 dX2_containerOf_13 dX2_containerOf_15 dX2_containerOf_18
set_option maxHeartbeats 4000000 in
set_option maxRecDepth 100000 in
/-- X2_pluggedContainer -/
theorem c_X2_pluggedContainer (M : gm_M) (u c : Int32) : KX lyC yX2_pluggedContainer wsX2_pluggedContainer ({ frames := 8, cells := 3, slots := 18, locals := 133 }) (fun ad => [.ref (ad 2 0), .int u, .int c]) M (thF (aW M u ∨ bC c) "java/lang/IllegalArgumentException" none) (fun ad => some (.ref (ad 0 (2 * uN u + uN c)))) (M) 3 18 := by
  refine KX.of_a (by decide) rfl rfl (fun _ => by simp) (fun _ => by simp [Value.category]) (rv := fun ad => .ref (ad 0 (2 * uN u + uN c))) (fun ad => Or.inr ⟨_, rfl⟩) ?_
  intro X hC hR hSX hE hT
  have hX := hSX.nx
  simp only [List.map_cons, List.map_nil, List.cons_append, List.nil_append, List.length_cons, List.length_nil, List.replicate, Nat.reduceAdd, Nat.reduceSub]
  refine go_aload_n hC dX2_pluggedContainer_0 rfl ?_
  refine go_iload_n hC dX2_pluggedContainer_1 rfl ?_
  refine go_callVX (n := 1) (k0 := 2) (n0 := 0) hC hSX (c_X2_plugged M u) gX2_pluggedContainer_X2_plugged rfl (by decide +kernel) ⟨rfl, rfl⟩ (by rw [hR]; exact ⟨by decide, by decide⟩) (by rw [hR]; exact ⟨by decide, by decide⟩) rfl (by decide) (by decide) rfl rfl (by first | decide | (show _ < 5; omega) | (show _ < 10; omega) | omega) rfl rfl rfl (Nat.le_of_ble_eq_true rfl) dX2_pluggedContainer_2 (fun E h => by obtain ⟨hp, rfl⟩ := thF_some h; exact thF_t (Or.inl hp)) (fun hn2 => ?_)
  simp only [gm_r0, gm_r1]
  obtain ⟨hue, hu5⟩ := bU_ix (fun q => thF_none hn2 (Or.inl q))
  refine go_iload_n hC dX2_pluggedContainer_5 rfl ?_
  refine go_callSX (n := 2) hC hSX (c_X2_containerOf M (uN u) hu5 c) gX2_pluggedContainer_X2_containerOf rfl (by decide +kernel) ⟨rfl, rfl⟩ (by rw [hR]; exact ⟨by decide, by decide⟩) (by rw [hR]; exact ⟨by decide, by decide⟩) rfl (by decide) (by decide) rfl rfl rfl (Nat.le_of_ble_eq_true rfl) dX2_pluggedContainer_6 (fun E h => by obtain ⟨hp, rfl⟩ := thF_some h; exact thF_t (Or.inr hp)) (fun hn6 => ?_)
  simp only [gm_r0, gm_r1]
  refine go_cast ?_ ?_ (hE _ _ _ _ (by decide) (by decide) (thF_f (fun q => q.elim (thF_none hn2) (thF_none hn6))) dX2_pluggedContainer_9)
  · first | rfl | (simp [*]; done)
  · first | rfl | (simp [*]; done)
set_option maxHeartbeats 4000000 in
set_option maxRecDepth 100000 in
/-- X2_unplug -/
theorem c_X2_unplug (M : gm_M) (u : Int32) : KX lyC yX2_unplug wsX2_unplug ({ frames := 8, cells := 2, slots := 12, locals := 133 }) (fun ad => [.ref (ad 2 0), .int u]) M (thF (aW M u) "java/lang/IllegalArgumentException" none) (fun _ => none) (uClear M (uN u)) 2 12 := by
  refine KX.of_v (by decide) rfl rfl (fun _ => by simp) (fun _ => by simp [Value.category])  ?_
  intro X hC hR hSX hE hT
  have hX := hSX.nx
  simp only [List.map_cons, List.map_nil, List.cons_append, List.nil_append, List.length_cons, List.length_nil, List.replicate, Nat.reduceAdd, Nat.reduceSub]
  refine go_aload_n hC dX2_unplug_0 rfl ?_
  refine go_iload_n hC dX2_unplug_1 rfl ?_
  refine go_callVX (n := 1) (k0 := 2) (n0 := 0) hC hSX (c_X2_plugged M u) gX2_unplug_X2_plugged rfl (by decide +kernel) ⟨rfl, rfl⟩ (by rw [hR]; exact ⟨by decide, by decide⟩) (by rw [hR]; exact ⟨by decide, by decide⟩) rfl (by decide) (by decide) rfl rfl (by first | decide | (show _ < 5; omega) | (show _ < 10; omega) | omega) rfl rfl rfl (Nat.le_of_ble_eq_true rfl) dX2_unplug_2 (fun E h => by obtain ⟨hp, rfl⟩ := thF_some h; exact thF_t (hp)) (fun hn2 => ?_)
  simp only [gm_r0, gm_r1]
  obtain ⟨hue, hu5⟩ := bU_ix (fun q => thF_none hn2 (Or.inl q))
  refine go_callV (n := 0) (k0 := 1) (n0 := uN u) hC hX (c_X1_clear _ _ hu5) gX2_unplug_X1_clear rfl (by decide +kernel) ⟨rfl, rfl⟩ (by rw [hR]; exact ⟨by decide, by decide⟩) (by rw [hR]; exact ⟨by decide, by decide⟩) rfl rfl rfl (by first | decide | (show _ < 5; omega) | (show _ < 10; omega) | omega) rfl rfl rfl (Nat.le_of_ble_eq_true rfl) dX2_unplug_5 ?_
  simp only [gm_r0, gm_r1]
  refine go_cast ?_ ?_ (hE _ _ _ _ (by decide) (by decide) (thF_f (thF_none hn2)) dX2_unplug_8)
  · first | rfl | (simp [*]; done)
  · first | rfl | (simp [*]; done)
theorem kwX2_down_1 : ∀ w ∈ wsX10, w ∈ wsX2_down := by decide +kernel
theorem lkX2_down_129 : Cond.fieldLink RX2 129 "SharedFibre$Unit" "wordWaits" "Z" ∈ wsX2_down := by decide +kernel
theorem lkX2_down_132 : Cond.fieldLink RX2 132 "SharedFibre$Unit" "waitingWord" "I" ∈ wsX2_down := by decide +kernel
set_option maxHeartbeats 4000000 in
set_option maxRecDepth 100000 in
/-- X2_down -/
theorem c_X2_down (M : gm_M) (u a : Int32) : KX lyC yX2_down wsX2_down ({ frames := 8, cells := 2, slots := 12, locals := 133 }) (fun ad => [.ref (ad 2 0), .int u, .int a]) M (thF (aW M u) "java/lang/IllegalArgumentException" none) (fun _ => none) (gm_up (gm_up M 1 10 (uN u) 1) 1 11 (uN u) a) 2 12 := by
  refine KX.of_v (by decide) rfl rfl (fun _ => by simp) (fun _ => by simp [Value.category])  ?_
  intro X hC hR hSX hE hT
  have hX := hSX.nx
  simp only [List.map_cons, List.map_nil, List.cons_append, List.nil_append, List.length_cons, List.length_nil, List.replicate, Nat.reduceAdd, Nat.reduceSub]
  refine go_aload_n hC dX2_down_0 rfl ?_
  refine go_iload_n hC dX2_down_1 rfl ?_
  refine go_callVX (n := 1) (k0 := 2) (n0 := 0) hC hSX (c_X2_plugged M u) gX2_down_X2_plugged rfl (by decide +kernel) ⟨rfl, rfl⟩ (by rw [hR]; exact ⟨by decide, by decide⟩) (by rw [hR]; exact ⟨by decide, by decide⟩) rfl (by decide) (by decide) rfl rfl (by first | decide | (show _ < 5; omega) | (show _ < 10; omega) | omega) rfl rfl rfl (Nat.le_of_ble_eq_true rfl) dX2_down_2 (fun E h => by obtain ⟨hp, rfl⟩ := thF_some h; exact thF_t (hp)) (fun hn2 => ?_)
  simp only [gm_r0, gm_r1]
  obtain ⟨hue, hu5⟩ := bU_ix (fun q => thF_none hn2 (Or.inl q))
  refine go_astore_n hC 3 dX2_down_5 rfl (Nat.le_of_ble_eq_true rfl) ?_
  simp only [gm_s0, gm_s1]
  refine go_aload_n hC dX2_down_6 rfl ?_
  refine go_iconst (v := 1) hC dX2_down_7 (by decide) ?_
  refine go_puti (ci := 1) hC 10 kwX2_down_1 rfl tyX1 tyX1_ok nmX1 rfl (by decide) rfl lkX2_down_129 (by first | decide | (show _ < 5; omega) | (show _ < 10; omega) | omega) rfl (by decide) (by decide) dX2_down_8 ?_
  refine go_aload_n hC dX2_down_11 rfl ?_
  refine go_iload_n hC dX2_down_12 rfl ?_
  refine go_puti (ci := 1) hC 11 kwX2_down_1 rfl tyX1 tyX1_ok nmX1 rfl (by decide) rfl lkX2_down_132 (by first | decide | (show _ < 5; omega) | (show _ < 10; omega) | omega) rfl rfl rfl dX2_down_13 ?_
  refine go_cast ?_ ?_ (hE _ _ _ _ (by decide) (by decide) (thF_f (thF_none hn2)) dX2_down_16)
  · first | rfl | (simp [*]; done)
  · first | rfl | (simp [*]; done)
theorem kwX2_spoil_1 : ∀ w ∈ wsX10, w ∈ wsX2_spoil := by decide +kernel
theorem lkX2_spoil_135 : Cond.fieldLink RX2 135 "SharedFibre$Unit" "spoilt" "Z" ∈ wsX2_spoil := by decide +kernel
set_option maxHeartbeats 4000000 in
set_option maxRecDepth 100000 in
/-- X2_spoil -/
theorem c_X2_spoil (M : gm_M) (u : Int32) : KX lyC yX2_spoil wsX2_spoil ({ frames := 8, cells := 2, slots := 12, locals := 133 }) (fun ad => [.ref (ad 2 0), .int u]) M (thF (aW M u) "java/lang/IllegalArgumentException" none) (fun _ => none) (gm_up M 1 14 (uN u) 1) 2 12 := by
  refine KX.of_v (by decide) rfl rfl (fun _ => by simp) (fun _ => by simp [Value.category])  ?_
  intro X hC hR hSX hE hT
  have hX := hSX.nx
  simp only [List.map_cons, List.map_nil, List.cons_append, List.nil_append, List.length_cons, List.length_nil, List.replicate, Nat.reduceAdd, Nat.reduceSub]
  refine go_aload_n hC dX2_spoil_0 rfl ?_
  refine go_iload_n hC dX2_spoil_1 rfl ?_
  refine go_callVX (n := 1) (k0 := 2) (n0 := 0) hC hSX (c_X2_plugged M u) gX2_spoil_X2_plugged rfl (by decide +kernel) ⟨rfl, rfl⟩ (by rw [hR]; exact ⟨by decide, by decide⟩) (by rw [hR]; exact ⟨by decide, by decide⟩) rfl (by decide) (by decide) rfl rfl (by first | decide | (show _ < 5; omega) | (show _ < 10; omega) | omega) rfl rfl rfl (Nat.le_of_ble_eq_true rfl) dX2_spoil_2 (fun E h => by obtain ⟨hp, rfl⟩ := thF_some h; exact thF_t (hp)) (fun hn2 => ?_)
  simp only [gm_r0, gm_r1]
  obtain ⟨hue, hu5⟩ := bU_ix (fun q => thF_none hn2 (Or.inl q))
  refine go_iconst (v := 1) hC dX2_spoil_5 (by decide) ?_
  refine go_puti (ci := 1) hC 14 kwX2_spoil_1 rfl tyX1 tyX1_ok nmX1 rfl (by decide) rfl lkX2_spoil_135 (by first | decide | (show _ < 5; omega) | (show _ < 10; omega) | omega) rfl (by decide) (by decide) dX2_spoil_6 ?_
  refine go_cast ?_ ?_ (hE _ _ _ _ (by decide) (by decide) (thF_f (thF_none hn2)) dX2_spoil_9)
  · first | rfl | (simp [*]; done)
  · first | rfl | (simp [*]; done)
theorem kwX2_key_1 : ∀ w ∈ wsX10, w ∈ wsX2_key := by decide +kernel
theorem lkX2_key_120 : Cond.fieldLink RX2 120 "SharedFibre$Unit" "keyWaits" "Z" ∈ wsX2_key := by decide +kernel
theorem lkX2_key_126 : Cond.fieldLink RX2 126 "SharedFibre$Unit" "waitingKey" "I" ∈ wsX2_key := by decide +kernel
theorem ltX2_key_Ii : Cond.initialized "java/lang/IllegalArgumentException" ∈ wsX2_key := by decide +kernel
theorem ltX2_key_Ik : Cond.classLink RX2 37 "java/lang/IllegalArgumentException" ∈ wsX2_key := by decide +kernel
theorem ltX2_key_Si : Cond.initialized "java/lang/IllegalStateException" ∈ wsX2_key := by decide +kernel
theorem ltX2_key_Sk : Cond.classLink RX2 53 "java/lang/IllegalStateException" ∈ wsX2_key := by decide +kernel
theorem ltX2_key_Ig : ∀ w ∈ (xW 41 "java/lang/IllegalArgumentException").filter goodWord, w ∈ wsX2_key := by
  intro w h
  first | exact List.mem_cons_of_mem _ (List.mem_append_right _ h) | exact List.mem_cons_of_mem _ (List.mem_append_left _ (List.mem_append_right _ h)) | exact List.mem_cons_of_mem _ (List.mem_append_left _ (List.mem_append_left _ (List.mem_append_right _ h)))
theorem ltX2_key_Sg : ∀ w ∈ (xW 57 "java/lang/IllegalStateException").filter goodWord, w ∈ wsX2_key := by
  intro w h
  first | exact List.mem_cons_of_mem _ (List.mem_append_right _ h) | exact List.mem_cons_of_mem _ (List.mem_append_left _ (List.mem_append_right _ h)) | exact List.mem_cons_of_mem _ (List.mem_append_left _ (List.mem_append_left _ (List.mem_append_right _ h)))
set_option maxHeartbeats 4000000 in
set_option maxRecDepth 100000 in
/-- X2_key -/
theorem c_X2_key (M : gm_M) (u a : Int32) : KX lyC yX2_key wsX2_key ({ frames := 8, cells := 3, slots := 18, locals := 133 }) (fun ad => [.ref (ad 2 0), .int u, .int a]) M (thF (aW M u ∨ a < 0 ∨ ¬ a ≤ 99) "java/lang/IllegalArgumentException" (thF (¬ M 1 7 (uN u) = 0) "java/lang/IllegalStateException" none)) (fun _ => none) (gm_up (gm_up M 1 7 (uN u) 1) 1 8 (uN u) a) 3 18 := by
  refine KX.of_v (by decide) rfl rfl (fun _ => by simp) (fun _ => by simp [Value.category])  ?_
  intro X hC hR hSX hE hT
  have hX := hSX.nx
  simp only [List.map_cons, List.map_nil, List.cons_append, List.nil_append, List.length_cons, List.length_nil, List.replicate, Nat.reduceAdd, Nat.reduceSub]
  refine go_aload_n hC dX2_key_0 rfl ?_
  refine go_iload_n hC dX2_key_1 rfl ?_
  refine go_callVX (n := 1) (k0 := 2) (n0 := 0) hC hSX (c_X2_plugged M u) gX2_key_X2_plugged rfl (by decide +kernel) ⟨rfl, rfl⟩ (by rw [hR]; exact ⟨by decide, by decide⟩) (by rw [hR]; exact ⟨by decide, by decide⟩) rfl (by decide) (by decide) rfl rfl (by first | decide | (show _ < 5; omega) | (show _ < 10; omega) | omega) rfl rfl rfl (Nat.le_of_ble_eq_true rfl) dX2_key_2 (fun E h => by obtain ⟨hp, rfl⟩ := thF_some h; exact thF_t (Or.inl hp)) (fun hn2 => ?_)
  simp only [gm_r0, gm_r1]
  obtain ⟨hue, hu5⟩ := bU_ix (fun q => thF_none hn2 (Or.inl q))
  refine go_astore_n hC 3 dX2_key_5 rfl (Nat.le_of_ble_eq_true rfl) ?_
  simp only [gm_s0, gm_s1]
  refine go_iload_n hC dX2_key_6 rfl ?_
  refine go_if_lt hC 16 dX2_key_7 (by decide) (fun h7 => ?_) (fun h7 => ?_)
  ·
    exact hT _ _ _ _ _ _ "java/lang/IllegalArgumentException" "key" _ (thF_t (by first | exact Or.inr (Or.inl h7) | exact Or.inr (Or.inr h13))) (by decide) (by decide) (by decide) (by decide) ltX2_key_Ik ltX2_key_Ii ltX2_key_Ig rfl (by decide) (by decide) (by decide) (by decide) dX2_key_16 dX2_key_19 dX2_key_20 dX2_key_22 dX2_key_25
  ·
    refine go_iload_n hC dX2_key_10 rfl ?_
    refine go_bipush (v := 99) hC dX2_key_11 (by decide) ?_
    refine go_icmp_le hC 26 dX2_key_13 (by decide) (fun h13 => ?_) (fun h13 => ?_)
    ·
      have hnb : ¬ (aW M u ∨ a < 0 ∨ ¬ a ≤ 99) := fun q => q.elim (thF_none hn2) (fun q => q.elim h7 (fun q => q h13))
      refine go_aload_n hC dX2_key_26 rfl ?_
      refine go_geti (ci := 1) hC 7 kwX2_key_1 rfl rfl (by decide) rfl lkX2_key_120 (by first | decide | (show _ < 5; omega) | (show _ < 10; omega) | omega) dX2_key_27 ?_
      refine go_if_eq hC 43 dX2_key_30 (by decide) (fun h30 => ?_) (fun h30 => ?_)
      ·
        refine go_aload_n hC dX2_key_43 rfl ?_
        refine go_iconst (v := 1) hC dX2_key_44 (by decide) ?_
        refine go_puti (ci := 1) hC 7 kwX2_key_1 rfl tyX1 tyX1_ok nmX1 rfl (by decide) rfl lkX2_key_120 (by first | decide | (show _ < 5; omega) | (show _ < 10; omega) | omega) rfl (by decide) (by decide) dX2_key_45 ?_
        refine go_aload_n hC dX2_key_48 rfl ?_
        refine go_iload_n hC dX2_key_49 rfl ?_
        refine go_puti (ci := 1) hC 8 kwX2_key_1 rfl tyX1 tyX1_ok nmX1 rfl (by decide) rfl lkX2_key_126 (by first | decide | (show _ < 5; omega) | (show _ < 10; omega) | omega) rfl rfl rfl dX2_key_50 ?_
        refine go_cast ?_ ?_ (hE _ _ _ _ (by decide) (by decide) ((thF_f hnb).trans (thF_f (fun q => q h30))) dX2_key_53)
        · first | rfl | (simp [*]; done)
        · first | rfl | (simp [*]; done)
      ·
        exact hT _ _ _ _ _ _ "java/lang/IllegalStateException" "a key waits" _ ((thF_f hnb).trans (thF_t h30)) (by decide) (by decide) (by decide) (by decide) ltX2_key_Sk ltX2_key_Si ltX2_key_Sg rfl (by decide) (by decide) (by decide) (by decide) dX2_key_33 dX2_key_36 dX2_key_37 dX2_key_39 dX2_key_42
    ·
      exact hT _ _ _ _ _ _ "java/lang/IllegalArgumentException" "key" _ (thF_t (by first | exact Or.inr (Or.inl h7) | exact Or.inr (Or.inr h13))) (by decide) (by decide) (by decide) (by decide) ltX2_key_Ik ltX2_key_Ii ltX2_key_Ig rfl (by decide) (by decide) (by decide) (by decide) dX2_key_16 dX2_key_19 dX2_key_20 dX2_key_22 dX2_key_25
def drF (M : gm_M) (n : Nat) (a : Int32) : gm_M := if M 1 1 n = 2 then gm_up (gm_up M 1 3 n (M 1 3 n + a)) 1 5 n (M 1 5 n + a) else gm_up M 1 3 n (M 1 3 n + a)
theorem kwX2_drift_1 : ∀ w ∈ wsX10, w ∈ wsX2_drift := by decide +kernel
theorem lkX2_drift_58 : Cond.fieldLink RX2 58 "SharedFibre$Unit" "state" "I" ∈ wsX2_drift := by decide +kernel
theorem lkX2_drift_64 : Cond.fieldLink RX2 64 "SharedFibre$Unit" "way" "I" ∈ wsX2_drift := by decide +kernel
theorem lkX2_drift_101 : Cond.fieldLink RX2 101 "SharedFibre$Unit" "error" "I" ∈ wsX2_drift := by decide +kernel
theorem ltX2_drift_Ii : Cond.initialized "java/lang/IllegalArgumentException" ∈ wsX2_drift := by decide +kernel
theorem ltX2_drift_Ik : Cond.classLink RX2 37 "java/lang/IllegalArgumentException" ∈ wsX2_drift := by decide +kernel
theorem ltX2_drift_Ig : ∀ w ∈ (xW 41 "java/lang/IllegalArgumentException").filter goodWord, w ∈ wsX2_drift := by
  intro w h
  first | exact List.mem_cons_of_mem _ (List.mem_append_right _ h) | exact List.mem_cons_of_mem _ (List.mem_append_left _ (List.mem_append_right _ h)) | exact List.mem_cons_of_mem _ (List.mem_append_left _ (List.mem_append_left _ (List.mem_append_right _ h)))
set_option maxHeartbeats 4000000 in
set_option maxRecDepth 100000 in
/-- X2_drift -/
theorem c_X2_drift (M : gm_M) (u a : Int32) : KX lyC yX2_drift wsX2_drift ({ frames := 8, cells := 3, slots := 18, locals := 133 }) (fun ad => [.ref (ad 2 0), .int u, .int a]) M (thF (aW M u ∨ a < -2 ∨ 2 < a ∨ ¬ (¬ (M 1 3 (uN u) + a) < 100 ∧ ¬ 600 < (M 1 3 (uN u) + a))) "java/lang/IllegalArgumentException" none) (fun _ => none) (drF M (uN u) a) 3 18 := by
  refine KX.of_v (by decide) rfl rfl (fun _ => by simp) (fun _ => by simp [Value.category])  ?_
  intro X hC hR hSX hE hT
  have hX := hSX.nx
  simp only [List.map_cons, List.map_nil, List.cons_append, List.nil_append, List.length_cons, List.length_nil, List.replicate, Nat.reduceAdd, Nat.reduceSub]
  refine go_aload_n hC dX2_drift_0 rfl ?_
  refine go_iload_n hC dX2_drift_1 rfl ?_
  refine go_callVX (n := 1) (k0 := 2) (n0 := 0) hC hSX (c_X2_plugged M u) gX2_drift_X2_plugged rfl (by decide +kernel) ⟨rfl, rfl⟩ (by rw [hR]; exact ⟨by decide, by decide⟩) (by rw [hR]; exact ⟨by decide, by decide⟩) rfl (by decide) (by decide) rfl rfl (by first | decide | (show _ < 5; omega) | (show _ < 10; omega) | omega) rfl rfl rfl (Nat.le_of_ble_eq_true rfl) dX2_drift_2 (fun E h => by obtain ⟨hp, rfl⟩ := thF_some h; exact thF_t (Or.inl hp)) (fun hn2 => ?_)
  simp only [gm_r0, gm_r1]
  obtain ⟨hue, hu5⟩ := bU_ix (fun q => thF_none hn2 (Or.inl q))
  refine go_astore_n hC 3 dX2_drift_5 rfl (Nat.le_of_ble_eq_true rfl) ?_
  simp only [gm_s0, gm_s1]
  refine go_iload_n hC dX2_drift_6 rfl ?_
  refine go_bipush (v := (-2)) hC dX2_drift_7 (by decide) ?_
  refine go_icmp_lt hC 29 dX2_drift_9 (by decide) (fun h9 => ?_) (fun h9 => ?_)
  ·
    exact hT _ _ _ _ _ _ "java/lang/IllegalArgumentException" "slots" _ (thF_t (by first | exact Or.inr (Or.inl h9) | exact Or.inr (Or.inr (Or.inl h14)) | exact Or.inr (Or.inr (Or.inr (fun q => absurd (h26.symm.trans (if_pos q)) (by decide)))))) (by decide) (by decide) (by decide) (by decide) ltX2_drift_Ik ltX2_drift_Ii ltX2_drift_Ig rfl (by decide) (by decide) (by decide) (by decide) dX2_drift_29 dX2_drift_32 dX2_drift_33 dX2_drift_35 dX2_drift_38
  ·
    refine go_iload_n hC dX2_drift_12 rfl ?_
    refine go_iconst (v := 2) hC dX2_drift_13 (by decide) ?_
    refine go_icmp_gt hC 29 dX2_drift_14 (by decide) (fun h14 => ?_) (fun h14 => ?_)
    ·
      exact hT _ _ _ _ _ _ "java/lang/IllegalArgumentException" "slots" _ (thF_t (by first | exact Or.inr (Or.inl h9) | exact Or.inr (Or.inr (Or.inl h14)) | exact Or.inr (Or.inr (Or.inr (fun q => absurd (h26.symm.trans (if_pos q)) (by decide)))))) (by decide) (by decide) (by decide) (by decide) ltX2_drift_Ik ltX2_drift_Ii ltX2_drift_Ig rfl (by decide) (by decide) (by decide) (by decide) dX2_drift_29 dX2_drift_32 dX2_drift_33 dX2_drift_35 dX2_drift_38
    ·
      refine go_aload_n hC dX2_drift_17 rfl ?_
      refine go_geti (ci := 1) hC 3 kwX2_drift_1 rfl rfl (by decide) rfl lkX2_drift_64 (by first | decide | (show _ < 5; omega) | (show _ < 10; omega) | omega) dX2_drift_18 ?_
      refine go_iload_n hC dX2_drift_21 rfl ?_
      refine go_iadd hC dX2_drift_22 ?_
      refine go_callS (n := 1) hC hX (c_X2_isWay _ _) gX2_drift_X2_isWay rfl (by decide +kernel) ⟨rfl, rfl⟩ (by rw [hR]; exact ⟨by decide, by decide⟩) (by rw [hR]; exact ⟨by decide, by decide⟩) rfl rfl rfl rfl (Nat.le_of_ble_eq_true rfl) dX2_drift_23 ?_
      simp only [gm_r0, gm_r1]
      refine go_if_ne hC 39 dX2_drift_26 (by decide) (fun h26 => ?_) (fun h26 => ?_)
      ·
        have hw : (¬ (M 1 3 (uN u) + a) < 100 ∧ ¬ 600 < (M 1 3 (uN u) + a)) := Classical.byContradiction (fun q => h26 (if_neg q))
        have hnb : ¬ (aW M u ∨ a < -2 ∨ 2 < a ∨ ¬ (¬ (M 1 3 (uN u) + a) < 100 ∧ ¬ 600 < (M 1 3 (uN u) + a))) := fun q => q.elim (thF_none hn2) (fun q => q.elim h9 (fun q => q.elim h14 (fun q => q hw)))
        refine go_aload_n hC dX2_drift_39 rfl ?_
        refine go_dup hC dX2_drift_40 rfl ?_
        refine go_geti (ci := 1) hC 3 kwX2_drift_1 rfl rfl (by decide) rfl lkX2_drift_64 (by first | decide | (show _ < 5; omega) | (show _ < 10; omega) | omega) dX2_drift_41 ?_
        refine go_iload_n hC dX2_drift_44 rfl ?_
        refine go_iadd hC dX2_drift_45 ?_
        refine go_puti (ci := 1) hC 3 kwX2_drift_1 rfl tyX1 tyX1_ok nmX1 rfl (by decide) rfl lkX2_drift_64 (by first | decide | (show _ < 5; omega) | (show _ < 10; omega) | omega) rfl rfl rfl dX2_drift_46 ?_
        refine go_aload_n hC dX2_drift_49 rfl ?_
        refine go_geti (ci := 1) hC 1 kwX2_drift_1 rfl rfl (by decide) rfl lkX2_drift_58 (by first | decide | (show _ < 5; omega) | (show _ < 10; omega) | omega) dX2_drift_50 ?_
        refine go_iconst (v := 2) hC dX2_drift_53 (by decide) ?_
        refine go_icmp_ne hC 67 dX2_drift_54 (by decide) (fun h54 => ?_) (fun h54 => ?_)
        ·
          rw [gm_un2 (by decide)] at h54
          refine go_cast rfl ?_ (hE _ _ _ _ (by decide) (by decide) (thF_f hnb) dX2_drift_67)
          first | (rw [show drF M (uN u) a = _ from if_pos h54, gm_un2 (by decide)]; done) | (rw [show drF M (uN u) a = _ from if_neg h54]; done)
        ·
          rw [gm_un2 (by decide)] at h54
          refine go_aload_n hC dX2_drift_57 rfl ?_
          refine go_dup hC dX2_drift_58 rfl ?_
          refine go_geti (ci := 1) hC 5 kwX2_drift_1 rfl rfl (by decide) rfl lkX2_drift_101 (by first | decide | (show _ < 5; omega) | (show _ < 10; omega) | omega) dX2_drift_59 ?_
          refine go_iload_n hC dX2_drift_62 rfl ?_
          refine go_iadd hC dX2_drift_63 ?_
          refine go_puti (ci := 1) hC 5 kwX2_drift_1 rfl tyX1 tyX1_ok nmX1 rfl (by decide) rfl lkX2_drift_101 (by first | decide | (show _ < 5; omega) | (show _ < 10; omega) | omega) rfl rfl rfl dX2_drift_64 ?_
          refine go_cast rfl ?_ (hE _ _ _ _ (by decide) (by decide) (thF_f hnb) dX2_drift_67)
          first | (rw [show drF M (uN u) a = _ from if_pos h54, gm_un2 (by decide)]; done) | (rw [show drF M (uN u) a = _ from if_neg h54]; done)
      ·
        exact hT _ _ _ _ _ _ "java/lang/IllegalArgumentException" "slots" _ (thF_t (by first | exact Or.inr (Or.inl h9) | exact Or.inr (Or.inr (Or.inl h14)) | exact Or.inr (Or.inr (Or.inr (fun q => absurd (h26.symm.trans (if_pos q)) (by decide)))))) (by decide) (by decide) (by decide) (by decide) ltX2_drift_Ik ltX2_drift_Ii ltX2_drift_Ig rfl (by decide) (by decide) (by decide) (by decide) dX2_drift_29 dX2_drift_32 dX2_drift_33 dX2_drift_35 dX2_drift_38
theorem kwX2_feeder_2 : ∀ w ∈ wsX20, w ∈ wsX2_feeder := by decide +kernel
theorem lkX2_feeder_15 : Cond.fieldLink RX2 15 "SharedFibre" "cut" "[Z" ∈ wsX2_feeder := by decide +kernel
theorem ltX2_feeder_Ii : Cond.initialized "java/lang/IllegalArgumentException" ∈ wsX2_feeder := by decide +kernel
theorem ltX2_feeder_Ik : Cond.classLink RX2 37 "java/lang/IllegalArgumentException" ∈ wsX2_feeder := by decide +kernel
theorem ltX2_feeder_Ig : ∀ w ∈ (xW 41 "java/lang/IllegalArgumentException").filter goodWord, w ∈ wsX2_feeder := by
  intro w h
  first | exact List.mem_cons_of_mem _ (List.mem_append_right _ h) | exact List.mem_cons_of_mem _ (List.mem_append_left _ (List.mem_append_right _ h)) | exact List.mem_cons_of_mem _ (List.mem_append_left _ (List.mem_append_left _ (List.mem_append_right _ h)))
set_option maxHeartbeats 4000000 in
set_option maxRecDepth 100000 in
/-- X2_feeder -/
theorem c_X2_feeder (M : gm_M) (f z : Int32) : KX lyC yX2_feeder wsX2_feeder ({ frames := 6, cells := 1, slots := 6, locals := 90 }) (fun ad => [.ref (ad 2 0), .int f, .int z]) M (thF (bC f) "java/lang/IllegalArgumentException" none) (fun _ => none) (gm_up M 4 (uN f) 0 (vp_nar .boolean z)) 1 6 := by
  refine KX.of_v (by decide) rfl rfl (fun _ => by simp) (fun _ => by simp [Value.category])  ?_
  intro X hC hR hSX hE hT
  have hX := hSX.nx
  simp only [List.map_cons, List.map_nil, List.cons_append, List.nil_append, List.length_cons, List.length_nil, List.replicate, Nat.reduceAdd, Nat.reduceSub]
  refine go_iload_n hC dX2_feeder_0 rfl ?_
  refine go_if_lt hC 9 dX2_feeder_1 (by decide) (fun h1 => ?_) (fun h1 => ?_)
  ·
    exact hT _ _ _ _ _ _ "java/lang/IllegalArgumentException" "feeder" _ (thF_t (by first | exact Or.inl h1 | exact Or.inr h6)) (by decide) (by decide) (by decide) (by decide) ltX2_feeder_Ik ltX2_feeder_Ii ltX2_feeder_Ig rfl (by decide) (by decide) (by decide) (by decide) dX2_feeder_9 dX2_feeder_12 dX2_feeder_13 dX2_feeder_15 dX2_feeder_18
  ·
    refine go_iload_n hC dX2_feeder_4 rfl ?_
    refine go_iconst (v := 2) hC dX2_feeder_5 (by decide) ?_
    refine go_icmp_lt hC 19 dX2_feeder_6 (by decide) (fun h6 => ?_) (fun h6 => ?_)
    ·
      have hnb : ¬ bC f := fun q => q.elim h1 (fun q => q h6)
      obtain ⟨hfe, hf2⟩ := bC_ix hnb
      refine go_aload_n hC dX2_feeder_19 rfl ?_
      refine go_getr (ci := 2) hC 1 kwX2_feeder_2 rfl rfl (by decide) rfl lkX2_feeder_15 (by first | decide | (show _ < 5; omega) | (show _ < 10; omega) | omega) dX2_feeder_20 ?_
      refine go_iload_n hC dX2_feeder_23 rfl ?_
      refine go_iload_n hC dX2_feeder_24 rfl ?_
      refine go_zast hC rfl (by first | decide | (show _ < 5; omega) | (show _ < 10; omega) | omega) (gm_in hfe (by omega) (by decide)) (gm_cl hfe (by omega)) dX2_feeder_25 ?_
      refine go_cast ?_ ?_ (hE _ _ _ _ (by decide) (by decide) (thF_f hnb) dX2_feeder_26)
      · first | rfl | (simp [*]; done)
      · first | rfl | (simp [*]; done)
    ·
      exact hT _ _ _ _ _ _ "java/lang/IllegalArgumentException" "feeder" _ (thF_t (by first | exact Or.inl h1 | exact Or.inr h6)) (by decide) (by decide) (by decide) (by decide) ltX2_feeder_Ik ltX2_feeder_Ii ltX2_feeder_Ig rfl (by decide) (by decide) (by decide) (by decide) dX2_feeder_9 dX2_feeder_12 dX2_feeder_13 dX2_feeder_15 dX2_feeder_18
