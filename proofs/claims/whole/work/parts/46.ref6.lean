/-! ===== the reference (6): the frame ===== -/
/-- what sending needs of all containers -/
def JVS (G : gm_M) : Prop := (∀ c, c < 10 → ∃ g, g < 2 ^ 31 ∧ G 25 c 0 = nI g) ∧ ∃ (q : Nat → Nat) (a : Nat), (∀ c, c < 10 → G 27 c 0 = nI (q c) ∧ q c ≤ 8 ∧ ∀ k, k < q c → G 28 (8 * c + k) 0 = nI (uN (G 28 (8 * c + k) 0)) ∧ uN (G 28 (8 * c + k) 0) < 100) ∧ G 0 31 0 = nI a ∧ a + qs q ≤ 100
theorem JVS.jv {G : gm_M} (h : JVS G) {c : Nat} (hc : c < 10) : JV c (uN (G 25 c 0)) G ∧ uN (G 25 c 0) < 2 ^ 31 := by
  obtain ⟨hg, q, a, hq, ha, hs⟩ := h
  obtain ⟨g, hg31, eg⟩ := hg c hc
  rw [JV, eg, show uN (nI g) = g from nI_clamp hg31]
  have := qs_ge q c hc
  exact ⟨⟨rfl, q c, a, (hq c hc).1, (hq c hc).2.1, ha, by omega, (hq c hc).2.2⟩, hg31⟩
theorem sbF_28 {n t : Nat} {G : gm_M} (ht : t ≤ 100) (h : QB n G t) (h0 : ¬ G 27 n 0 ≤ 0) {i : Nat} (hi : i < 8 * n ∨ 8 * n + 8 ≤ i) : sbF n G 28 i 0 = G 28 i 0 := by
  obtain ⟨q, a, hq, hq8, ha, haq, hd⟩ := h
  obtain ⟨q, rfl⟩ : ∃ q', q = q' + 1 := ⟨q - 1, by have : q ≠ 0 := fun e => h0 (by rw [hq, e]; decide); omega⟩
  have hd0 := hd 0 (by omega)
  rw [Nat.add_zero] at hd0
  rw [sbF_eq hq (by omega) hd0.1 hd0.2 ha (by omega)]
  rcases sbkM_27 (G := G) (n := n) (q := q) (d := uN (G 28 (8 * n) 0)) (a := a) with ⟨e1, e2, e3⟩ | ⟨e1, e2, e3⟩
  · rw [e3, if_neg (by omega)]
  · rw [e3]
theorem trL_28 {n t : Nat} (ht : t ≤ 100) {i : Nat} (hi : i < 8 * n ∨ 8 * n + 8 ≤ i) : ∀ (d : Nat) (G : gm_M), QB n G t → trL n d G 28 i 0 = G 28 i 0
  | 0, G, h => rfl
  | d + 1, G, h => by
    by_cases h0 : G 27 n 0 ≤ 0
    · rw [trL_t h0]
    · rw [trL_f h0, trL_28 ht hi d _ (sbF_qb ht h h0), sbF_28 ht h h0 hi]
theorem trL_27 {n m : Nat} (hm : m ≠ n) : ∀ (d : Nat) (G : gm_M), trL n d G 27 m 0 = G 27 m 0
  | 0, G => rfl
  | d + 1, G => by
    by_cases h0 : G 27 n 0 ≤ 0
    · rw [trL_t h0]
    · rw [trL_f h0, trL_27 hm d, sbF, sbkM_o hm]
theorem trA_JVS {n : Nat} {G : gm_M} (hc : n < 10) (h : JVS G) : JVS (trA n G) := by
  obtain ⟨hg, q, a, hq, ha, hs⟩ := h
  have hge := qs_ge q n hc
  have hQB : QB n G (a + q n) := ⟨q n, a, (hq _ hc).1, (hq _ hc).2.1, ha, Nat.le_refl _, (hq _ hc).2.2⟩
  obtain ⟨q', a', hq', hq8', ha', hs', hd'⟩ := trL_qb (t := a + q n) (by omega) (uN (G 25 n 0)) G hQB
  refine ⟨fun c h10 => ?_, fun x => if x = n then q' else q x, a', fun c h10 => ?_, ha', ?_⟩
  · obtain ⟨g, h1, h2⟩ := hg c h10
    refine ⟨g, h1, ?_⟩
    rw [trA, trL_ne (by decide) (by decide) (by decide) (by decide) (by decide) (by decide) (by decide) (by simp)]
    exact h2
  · by_cases e : c = n
    · subst e
      simp only [if_pos]
      exact ⟨hq', hq8', hd'⟩
    · simp only [if_neg e]
      rw [trA, trL_27 e]
      refine ⟨(hq c h10).1, (hq c h10).2.1, fun k hk => ?_⟩
      have := (hq c h10).2.1
      rw [trL_28 (t := a + q n) (by omega) (by omega) _ _ hQB]
      exact (hq c h10).2.2 k hk
  · have := qs_upd q q' n hc
    omega
theorem trM_JVS {n : Nat} {G : gm_M} (hc : n < 10) (h : JVS G) : JVS (trM n G) := by
  have h1 := trA_JVS hc h
  unfold trM
  split
  · obtain ⟨hg, q, a, hq, ha, hs⟩ := h1
    refine ⟨fun c hc => ?_, q, a, fun c hc => ?_, ?_, hs⟩
    · rw [gm_un1 (by decide)]; exact hg c hc
    · rw [gm_un1 (by decide)]
      refine ⟨(hq c hc).1, (hq c hc).2.1, fun k hk => ?_⟩
      rw [gm_un1 (by decide)]
      exact (hq c hc).2.2 k hk
    · rw [gm_un1 (by decide)]; exact ha
  · exact h1
theorem iter_0 (f : Nat → gm_M → gm_M) (M : gm_M) : iter f 0 M = M := rfl
noncomputable def tr2 : Nat → gm_M → gm_M := fun c G => if G 2 (c / 2) 0 = 2 then trM c G else G
theorem tr2_JVS {c : Nat} {G : gm_M} (hc : c < 10) (h : JVS G) : JVS (tr2 c G) := by
  unfold tr2
  split
  · exact trM_JVS hc h
  · exact h
noncomputable def lk2 : Nat → gm_M → gm_M := fun u G => if G 2 u 0 = 2 then lkM G u else G
def ks2 : Nat → gm_M → gm_M := fun u G => if G 2 u 0 = 2 then ky2 (ky1 G u) u else G
def cs2 : Nat → gm_M → gm_M := fun u G => gm_up G 7 u 0 0
def faM (G : gm_M) : gm_M := gm_up (gm_up G 0 0 0 0) 0 11 0 (G 0 11 0 + 1)
def fbM (G : gm_M) : gm_M := gm_up (faM G) 0 9 0 0
def fqM (G : gm_M) : gm_M := gm_up (fbM G) 0 10 0 0
noncomputable def fwM (G : gm_M) : gm_M := iter lk2 5 (fbM G)
noncomputable def fcM (G : gm_M) (b : Nat) : gm_M := iter bm2 5 (buP (whM b (mpA (fwM G))) 5).1
noncomputable def ftM (G : gm_M) (b : Nat) : gm_M := iter tr2 10 (fcM G b)
noncomputable def fzM (G : gm_M) (b : Nat) : gm_M := iter cs2 5 (iter ks2 5 (ftM G b))
noncomputable def fM (G : gm_M) (o b : Nat) : gm_M := if G 9 o 0 = 0 then (if G 0 10 0 = 0 then fzM G b else iter (qf2 (fqM G)) 5 (fqM G)) else dkM (faM G) (1 - o)
noncomputable def fR (G : gm_M) (o b : Nat) : Int32 := if G 9 o 0 = 0 then (if G 0 10 0 = 0 then ftM G b 0 31 0 - fcM G b 0 31 0 else -2) else -1
theorem kwX3_frame_3 : ∀ w ∈ wsX30, w ∈ wsX3_frame := by decide +kernel
theorem lkX3_frame_7 : Cond.fieldLink RX3 7 "SharedFibreModel" "state" "[I" ∈ wsX3_frame := by decide +kernel
theorem lkX3_frame_25 : Cond.fieldLink RX3 25 "SharedFibreModel" "spoilt" "[Z" ∈ wsX3_frame := by decide +kernel
theorem lkX3_frame_29 : Cond.fieldLink RX3 29 "SharedFibreModel" "cut" "[Z" ∈ wsX3_frame := by decide +kernel
theorem lkX3_frame_101 : Cond.fieldLink RX3 101 "SharedFibreModel" "thrown" "I" ∈ wsX3_frame := by decide +kernel
theorem lkX3_frame_107 : Cond.fieldLink RX3 107 "SharedFibreModel" "active" "I" ∈ wsX3_frame := by decide +kernel
theorem lkX3_frame_129 : Cond.fieldLink RX3 129 "SharedFibreModel" "quiet" "Z" ∈ wsX3_frame := by decide +kernel
theorem lkX3_frame_133 : Cond.fieldLink RX3 133 "SharedFibreModel" "dark" "I" ∈ wsX3_frame := by decide +kernel
theorem lkX3_frame_170 : Cond.fieldLink RX3 170 "SharedFibreModel" "frames" "I" ∈ wsX3_frame := by decide +kernel
set_option maxHeartbeats 4000000 in
set_option maxRecDepth 100000 in
/-- the reference: X3_frame -/
theorem c_X3_frame (G : gm_M) (o b : Nat) (ho : G 0 7 0 = nI o) (ho1 : o ≤ 1) (hb31 : b < 2 ^ 31) (hb : G 9 o 0 = 0 → G 0 10 0 = 0 → mpA (fwM G) 0 37 0 = nI b) (hI : G 9 o 0 = 0 → G 0 10 0 = 0 → JVS (fcM G b)) : KC lyM yX3_frame wsX3_frame ({ frames := 3, cells := 0, slots := 0, locals := 68 }) (fun ad => [.ref (ad 0 0)]) G (fun _ => some (.int (fR G o b))) (fM G o b) := by
  refine KC.of_i (by decide) rfl rfl (fun _ => by simp) (fun _ => by simp [Value.category])  ?_
  intro X hC hR hX hE
  simp only [List.map_cons, List.map_nil, List.cons_append, List.nil_append, List.length_cons, List.length_nil, List.replicate, Nat.reduceAdd, Nat.reduceSub]
  refine go_aload_n hC dX3_frame_0 rfl ?_
  refine go_iconst (v := 0) hC dX3_frame_1 (by decide) ?_
  refine go_puti (ci := 3) hC 0 kwX3_frame_3 rfl tyX3 tyX3_ok nmX3 rfl (by decide) rfl lkX3_frame_101 (by first | decide | (show _ < 5; omega) | (show _ < 10; omega) | omega) rfl rfl rfl dX3_frame_2 ?_
  refine go_aload_n hC dX3_frame_5 rfl ?_
  refine go_dup hC dX3_frame_6 rfl ?_
  refine go_geti (ci := 3) hC 11 kwX3_frame_3 rfl rfl (by decide) rfl lkX3_frame_170 (by first | decide | (show _ < 5; omega) | (show _ < 10; omega) | omega) dX3_frame_7 ?_
  refine go_iconst (v := 1) hC dX3_frame_10 (by decide) ?_
  refine go_iadd hC dX3_frame_11 ?_
  refine go_puti (ci := 3) hC 11 kwX3_frame_3 rfl tyX3 tyX3_ok nmX3 rfl (by decide) rfl lkX3_frame_170 (by first | decide | (show _ < 5; omega) | (show _ < 10; omega) | omega) rfl rfl rfl dX3_frame_12 ?_
  rw [show gm_up G 0 0 0 0 0 11 0 = G 0 11 0 from gm_un2 (by decide)]
  show GO lyM X 0 0 15 _ _ (faM G)
  refine go_aload_n hC dX3_frame_15 rfl ?_
  refine go_getr (ci := 3) hC 8 kwX3_frame_3 rfl rfl (by decide) rfl lkX3_frame_29 (by first | decide | (show _ < 5; omega) | (show _ < 10; omega) | omega) dX3_frame_16 ?_
  refine go_aload_n hC dX3_frame_19 rfl ?_
  refine go_geti (ci := 3) hC 7 kwX3_frame_3 rfl rfl (by decide) rfl lkX3_frame_107 (by first | decide | (show _ < 5; omega) | (show _ < 10; omega) | omega) dX3_frame_20 ?_
  refine go_zald hC rfl (by first | decide | (show _ < 5; omega) | (show _ < 10; omega) | omega) (gm_in (n := o) ((gm_un2 (by decide)).trans ((gm_un2 (by decide)).trans ho)) (by omega) (by decide)) (gm_cl (n := o) ((gm_un2 (by decide)).trans ((gm_un2 (by decide)).trans ho)) (by omega)) dX3_frame_23 ?_
  refine go_if_eq hC 33 dX3_frame_24 (by decide) (fun h24 => ?_) (fun h24 => ?_)
  ·
    rw [faM, gm_un1 (by decide), gm_un1 (by decide)] at h24
    refine go_aload_n hC dX3_frame_33 rfl ?_
    refine go_iconst (v := 0) hC dX3_frame_34 (by decide) ?_
    refine go_puti (ci := 3) hC 9 kwX3_frame_3 rfl tyX3 tyX3_ok nmX3 rfl (by decide) rfl lkX3_frame_133 (by first | decide | (show _ < 5; omega) | (show _ < 10; omega) | omega) rfl rfl rfl dX3_frame_35 ?_
    show GO lyM X 0 0 38 _ _ (fbM G)
    refine go_aload_n hC dX3_frame_38 rfl ?_
    refine go_geti (ci := 3) hC 10 kwX3_frame_3 rfl rfl (by decide) rfl lkX3_frame_129 (by first | decide | (show _ < 5; omega) | (show _ < 10; omega) | omega) dX3_frame_39 ?_
    refine go_if_eq hC 57 dX3_frame_42 (by decide) (fun h42 => ?_) (fun h42 => ?_)
    ·
      rw [fbM, faM, gm_un2 (by decide), gm_un2 (by decide), gm_un2 (by decide)] at h42
      refine go_iconst (v := 0) hC dX3_frame_57 (by decide) ?_
      refine go_istore_n hC 1 dX3_frame_58 rfl (Nat.le_of_ble_eq_true rfl) ?_
      simp only [gm_s0, gm_s1]
      have lp59 : (fun j : Nat => GO lyM X 0 0 59 [some (.ref (gm_ad X 0 0)), some (.int (nI j)), none] [] (iter lk2 j (fbM G))) 0 := by
        refine loopN (5) (fun j : Nat => GO lyM X 0 0 59 [some (.ref (gm_ad X 0 0)), some (.int (nI j)), none] [] (iter lk2 j (fbM G))) ?_ (fun j hj ih => ?_)
        · try dsimp only
          refine go_iload_n hC dX3_frame_59 rfl ?_
          refine go_iconst (v := 5) hC dX3_frame_60 (by decide) ?_
          refine go_icmp_ge hC 85 dX3_frame_61 (by decide) (fun h61 => ?_) (fun h61 => ?_)
          ·
            show GO lyM X 0 0 85 _ _ (fwM G)
            refine go_aload_n hC dX3_frame_85 rfl ?_
            refine go_callV (n := 0) (k0 := 0) (n0 := 0) hC hX (c_X3_map (fwM G) b (hb h24 h42) hb31) gX3_frame_X3_map rfl (by decide +kernel) ⟨rfl, rfl⟩ (by rw [hR]; exact ⟨by decide, by decide⟩) (by rw [hR]; exact ⟨by decide, by decide⟩) rfl rfl rfl (by first | decide | (show _ < 5; omega) | (show _ < 10; omega) | omega) rfl rfl rfl (Nat.le_of_ble_eq_true rfl) dX3_frame_86 ?_
            simp only [gm_r0, gm_r1]
            refine go_aload_n hC dX3_frame_89 rfl ?_
            refine go_callV (n := 0) (k0 := 0) (n0 := 0) hC hX (c_X3_bursts _) gX3_frame_X3_bursts rfl (by decide +kernel) ⟨rfl, rfl⟩ (by rw [hR]; exact ⟨by decide, by decide⟩) (by rw [hR]; exact ⟨by decide, by decide⟩) rfl rfl rfl (by first | decide | (show _ < 5; omega) | (show _ < 10; omega) | omega) rfl rfl rfl (Nat.le_of_ble_eq_true rfl) dX3_frame_90 ?_
            simp only [gm_r0, gm_r1]
            show GO lyM X 0 0 93 _ _ (fcM G b)
            refine go_iconst (v := 0) hC dX3_frame_93 (by decide) ?_
            refine go_istore_n hC 1 dX3_frame_94 rfl (Nat.le_of_ble_eq_true rfl) ?_
            simp only [gm_s0, gm_s1]
            refine go_iconst (v := 0) hC dX3_frame_95 (by decide) ?_
            refine go_istore_n hC 2 dX3_frame_96 rfl (Nat.le_of_ble_eq_true rfl) ?_
            simp only [gm_s0, gm_s1]
            have lp97 : (fun j : Nat => GO lyM X 0 0 97 [some (.ref (gm_ad X 0 0)), some (.int ((iter tr2 j (fcM G b)) 0 31 0 - fcM G b 0 31 0)), some (.int (nI j))] [] (iter tr2 j (fcM G b))) 0 := by
              refine loopN (10) (fun j : Nat => GO lyM X 0 0 97 [some (.ref (gm_ad X 0 0)), some (.int ((iter tr2 j (fcM G b)) 0 31 0 - fcM G b 0 31 0)), some (.int (nI j))] [] (iter tr2 j (fcM G b))) ?_ (fun j hj ih => ?_)
              · try dsimp only
                refine go_iload_n hC dX3_frame_97 rfl ?_
                refine go_bipush (v := 10) hC dX3_frame_98 (by decide) ?_
                refine go_icmp_ge hC 133 dX3_frame_100 (by decide) (fun h100 => ?_) (fun h100 => ?_)
                ·
                  refine go_iconst (v := 0) hC dX3_frame_133 (by decide) ?_
                  refine go_istore_n hC 2 dX3_frame_134 rfl (Nat.le_of_ble_eq_true rfl) ?_
                  simp only [gm_s0, gm_s1]
                  have lp135 : (fun j : Nat => GO lyM X 0 0 135 [some (.ref (gm_ad X 0 0)), some (.int ((iter tr2 10 (fcM G b)) 0 31 0 - fcM G b 0 31 0)), some (.int (nI j))] [] (iter ks2 j (iter tr2 10 (fcM G b)))) 0 := by
                    refine loopN (5) (fun j : Nat => GO lyM X 0 0 135 [some (.ref (gm_ad X 0 0)), some (.int ((iter tr2 10 (fcM G b)) 0 31 0 - fcM G b 0 31 0)), some (.int (nI j))] [] (iter ks2 j (iter tr2 10 (fcM G b)))) ?_ (fun j hj ih => ?_)
                    · try dsimp only
                      refine go_iload_n hC dX3_frame_135 rfl ?_
                      refine go_iconst (v := 5) hC dX3_frame_136 (by decide) ?_
                      refine go_icmp_ge hC 161 dX3_frame_137 (by decide) (fun h137 => ?_) (fun h137 => ?_)
                      ·
                        refine go_iconst (v := 0) hC dX3_frame_161 (by decide) ?_
                        refine go_istore_n hC 2 dX3_frame_162 rfl (Nat.le_of_ble_eq_true rfl) ?_
                        simp only [gm_s0, gm_s1]
                        have lp163 : (fun j : Nat => GO lyM X 0 0 163 [some (.ref (gm_ad X 0 0)), some (.int ((iter tr2 10 (fcM G b)) 0 31 0 - fcM G b 0 31 0)), some (.int (nI j))] [] (iter cs2 j (iter ks2 5 (iter tr2 10 (fcM G b))))) 0 := by
                          refine loopN (5) (fun j : Nat => GO lyM X 0 0 163 [some (.ref (gm_ad X 0 0)), some (.int ((iter tr2 10 (fcM G b)) 0 31 0 - fcM G b 0 31 0)), some (.int (nI j))] [] (iter cs2 j (iter ks2 5 (iter tr2 10 (fcM G b))))) ?_ (fun j hj ih => ?_)
                          · try dsimp only
                            refine go_iload_n hC dX3_frame_163 rfl ?_
                            refine go_iconst (v := 5) hC dX3_frame_164 (by decide) ?_
                            refine go_icmp_ge hC 181 dX3_frame_165 (by decide) (fun h165 => ?_) (fun h165 => ?_)
                            ·
                              refine go_iload_n hC dX3_frame_181 rfl ?_
                              refine go_cast ?_ ?_ (hE _ _ dX3_frame_182)
                              · rw [show fR G o b = _ from if_pos h24, if_pos h42, ftM]
                              · rw [show fM G o b = _ from if_pos h24, if_pos h42, fzM, ftM]
                            ·
                              exact absurd (show nI 5 ≤ nI 5 from nI_le (Nat.le_refl _) (by decide)) h165
                          · try dsimp only at ih ⊢
                            refine go_iload_n hC dX3_frame_163 rfl ?_
                            refine go_iconst (v := 5) hC dX3_frame_164 (by decide) ?_
                            refine go_icmp_ge hC 181 dX3_frame_165 (by decide) (fun h165 => ?_) (fun h165 => ?_)
                            ·
                              exact absurd h165 (show ¬ nI 5 ≤ nI j from nI_ge hj (by decide))
                            ·
                              refine go_aload_n hC dX3_frame_168 rfl ?_
                              refine go_getr (ci := 3) hC 6 kwX3_frame_3 rfl rfl (by decide) rfl lkX3_frame_25 (by first | decide | (show _ < 5; omega) | (show _ < 10; omega) | omega) dX3_frame_169 ?_
                              refine go_iload_n hC dX3_frame_172 rfl ?_
                              refine go_iconst (v := 0) hC dX3_frame_173 (by decide) ?_
                              refine go_zast hC rfl (by first | decide | (show _ < 5; omega) | (show _ < 10; omega) | omega) (gm_in rfl (by omega) (by decide)) (gm_cl rfl (by omega)) dX3_frame_174 ?_
                              refine go_iinc (v := 1) hC dX3_frame_175 rfl (by decide) ?_
                              simp only [gm_s0, gm_s1]
                              refine go_goto hC 163 dX3_frame_178 (by decide) ?_
                              rw [nI_1]
                              exact ih
                        try dsimp only at lp163
                        rw [iter_0] at lp163
                        exact lp163
                      ·
                        exact absurd (show nI 5 ≤ nI 5 from nI_le (Nat.le_refl _) (by decide)) h137
                    · try dsimp only at ih ⊢
                      refine go_iload_n hC dX3_frame_135 rfl ?_
                      refine go_iconst (v := 5) hC dX3_frame_136 (by decide) ?_
                      refine go_icmp_ge hC 161 dX3_frame_137 (by decide) (fun h137 => ?_) (fun h137 => ?_)
                      ·
                        exact absurd h137 (show ¬ nI 5 ≤ nI j from nI_ge hj (by decide))
                      ·
                        refine go_aload_n hC dX3_frame_140 rfl ?_
                        refine go_getr (ci := 3) hC 1 kwX3_frame_3 rfl rfl (by decide) rfl lkX3_frame_7 (by first | decide | (show _ < 5; omega) | (show _ < 10; omega) | omega) dX3_frame_141 ?_
                        refine go_iload_n hC dX3_frame_144 rfl ?_
                        refine go_iald hC rfl (by first | decide | (show _ < 5; omega) | (show _ < 10; omega) | omega) (gm_in rfl (by omega) (by decide)) (gm_cl rfl (by omega)) dX3_frame_145 ?_
                        refine go_iconst (v := 2) hC dX3_frame_146 (by decide) ?_
                        refine go_icmp_ne hC 155 dX3_frame_147 (by decide) (fun h147 => ?_) (fun h147 => ?_)
                        ·
                          refine go_iinc (v := 1) hC dX3_frame_155 rfl (by decide) ?_
                          simp only [gm_s0, gm_s1]
                          refine go_goto hC 135 dX3_frame_158 (by decide) ?_
                          rw [nI_1]
                          refine go_mem ?_ ih
                          rw [iter_s ks2 j]
                          first | exact (if_neg h147).symm | exact (if_pos h147).symm
                        ·
                          refine go_aload_n hC dX3_frame_150 rfl ?_
                          refine go_iload_n hC dX3_frame_151 rfl ?_
                          refine go_callV (n := 1) (k0 := 0) (n0 := 0) hC hX (c_X3_keys _ j hj) gX3_frame_X3_keys rfl (by decide +kernel) ⟨rfl, rfl⟩ (by rw [hR]; exact ⟨by decide, by decide⟩) (by rw [hR]; exact ⟨by decide, by decide⟩) rfl rfl rfl (by first | decide | (show _ < 5; omega) | (show _ < 10; omega) | omega) rfl rfl rfl (Nat.le_of_ble_eq_true rfl) dX3_frame_152 ?_
                          simp only [gm_r0, gm_r1]
                          refine go_iinc (v := 1) hC dX3_frame_155 rfl (by decide) ?_
                          simp only [gm_s0, gm_s1]
                          refine go_goto hC 135 dX3_frame_158 (by decide) ?_
                          rw [nI_1]
                          refine go_mem ?_ ih
                          rw [iter_s ks2 j]
                          first | exact (if_neg h147).symm | exact (if_pos h147).symm
                  try dsimp only at lp135
                  rw [iter_0] at lp135
                  exact lp135
                ·
                  exact absurd (show nI 10 ≤ nI 10 from nI_le (Nat.le_refl _) (by decide)) h100
              · try dsimp only at ih ⊢
                have hIj : JVS (iter tr2 j (fcM G b)) := iter_invL 10 (fun k M hk hM => tr2_JVS hk hM) (hI h24 h42) j (by omega)
                refine go_iload_n hC dX3_frame_97 rfl ?_
                refine go_bipush (v := 10) hC dX3_frame_98 (by decide) ?_
                refine go_icmp_ge hC 133 dX3_frame_100 (by decide) (fun h100 => ?_) (fun h100 => ?_)
                ·
                  exact absurd h100 (show ¬ nI 10 ≤ nI j from nI_ge hj (by decide))
                ·
                  refine go_iload_n hC dX3_frame_103 rfl ?_
                  have h125 : GO lyM X 0 0 125 [some (.ref (gm_ad X 0 0)), some (.int ((iter tr2 j (fcM G b)) 0 31 0 - fcM G b 0 31 0)), some (.int (nI j))] [.int (iter tr2 (j + 1) (fcM G b) 0 31 0 - (iter tr2 j (fcM G b)) 0 31 0), .int ((iter tr2 j (fcM G b)) 0 31 0 - fcM G b 0 31 0)] (iter tr2 (j + 1) (fcM G b)) := by
                    refine go_iadd hC dX3_frame_125 ?_
                    rw [i_tele]
                    refine go_istore_n hC 1 dX3_frame_126 rfl (Nat.le_of_ble_eq_true rfl) ?_
                    simp only [gm_s0, gm_s1]
                    refine go_iinc (v := 1) hC dX3_frame_127 rfl (by decide) ?_
                    simp only [gm_s0, gm_s1]
                    refine go_goto hC 97 dX3_frame_130 (by decide) ?_
                    rw [nI_1]
                    exact ih
                  refine go_aload_n hC dX3_frame_104 rfl ?_
                  refine go_getr (ci := 3) hC 1 kwX3_frame_3 rfl rfl (by decide) rfl lkX3_frame_7 (by first | decide | (show _ < 5; omega) | (show _ < 10; omega) | omega) dX3_frame_105 ?_
                  refine go_iload_n hC dX3_frame_108 rfl ?_
                  refine go_iconst (v := 2) hC dX3_frame_109 (by decide) ?_
                  refine go_idiv hC dX3_frame_110 (by decide) ?_
                  refine go_iald hC rfl (by first | decide | (show _ < 5; omega) | (show _ < 10; omega) | omega) (gm_in (half j (by omega)) (by omega) (by decide)) (gm_cl (half j (by omega)) (by omega)) dX3_frame_111 ?_
                  refine go_iconst (v := 2) hC dX3_frame_112 (by decide) ?_
                  refine go_icmp_ne hC 124 dX3_frame_113 (by decide) (fun h113 => ?_) (fun h113 => ?_)
                  ·
                    refine go_iconst (v := 0) hC dX3_frame_124 (by decide) ?_
                    refine go_cast ?_ ?_ h125
                    · rw [iter_s tr2 j]
                      first | (rw [show tr2 j (iter tr2 j (fcM G b)) = _ from if_pos h113]; done) | (rw [show tr2 j (iter tr2 j (fcM G b)) = _ from if_neg h113, i_self]; done)
                    · rw [iter_s tr2 j]
                      first | exact (if_pos h113).symm | exact (if_neg h113).symm
                  ·
                    refine go_aload_n hC dX3_frame_116 rfl ?_
                    refine go_iload_n hC dX3_frame_117 rfl ?_
                    refine go_callV (n := 1) (k0 := 0) (n0 := 0) hC hX (c_X3_transport _ j _ hj (hIj.jv hj).2 (hIj.jv hj).1) gX3_frame_X3_transport rfl (by decide +kernel) ⟨rfl, rfl⟩ (by rw [hR]; exact ⟨by decide, by decide⟩) (by rw [hR]; exact ⟨by decide, by decide⟩) rfl rfl rfl (by first | decide | (show _ < 5; omega) | (show _ < 10; omega) | omega) rfl rfl rfl (Nat.le_of_ble_eq_true rfl) dX3_frame_118 ?_
                    simp only [gm_r0, gm_r1]
                    refine go_goto hC 125 dX3_frame_121 (by decide) ?_
                    refine go_cast ?_ ?_ h125
                    · rw [iter_s tr2 j]
                      first | (rw [show tr2 j (iter tr2 j (fcM G b)) = _ from if_pos h113]; done) | (rw [show tr2 j (iter tr2 j (fcM G b)) = _ from if_neg h113, i_self]; done)
                    · rw [iter_s tr2 j]
                      first | exact (if_pos h113).symm | exact (if_neg h113).symm
            try dsimp only at lp97
            rw [iter_0, i_self] at lp97
            exact lp97
          ·
            exact absurd (show nI 5 ≤ nI 5 from nI_le (Nat.le_refl _) (by decide)) h61
        · try dsimp only at ih ⊢
          refine go_iload_n hC dX3_frame_59 rfl ?_
          refine go_iconst (v := 5) hC dX3_frame_60 (by decide) ?_
          refine go_icmp_ge hC 85 dX3_frame_61 (by decide) (fun h61 => ?_) (fun h61 => ?_)
          ·
            exact absurd h61 (show ¬ nI 5 ≤ nI j from nI_ge hj (by decide))
          ·
            refine go_aload_n hC dX3_frame_64 rfl ?_
            refine go_getr (ci := 3) hC 1 kwX3_frame_3 rfl rfl (by decide) rfl lkX3_frame_7 (by first | decide | (show _ < 5; omega) | (show _ < 10; omega) | omega) dX3_frame_65 ?_
            refine go_iload_n hC dX3_frame_68 rfl ?_
            refine go_iald hC rfl (by first | decide | (show _ < 5; omega) | (show _ < 10; omega) | omega) (gm_in rfl (by omega) (by decide)) (gm_cl rfl (by omega)) dX3_frame_69 ?_
            refine go_iconst (v := 2) hC dX3_frame_70 (by decide) ?_
            refine go_icmp_ne hC 79 dX3_frame_71 (by decide) (fun h71 => ?_) (fun h71 => ?_)
            ·
              refine go_iinc (v := 1) hC dX3_frame_79 rfl (by decide) ?_
              simp only [gm_s0, gm_s1]
              refine go_goto hC 59 dX3_frame_82 (by decide) ?_
              rw [nI_1]
              refine go_mem ?_ ih
              rw [iter_s lk2 j]
              first | exact (if_neg h71).symm | exact (if_pos h71).symm
            ·
              refine go_aload_n hC dX3_frame_74 rfl ?_
              refine go_iload_n hC dX3_frame_75 rfl ?_
              refine go_callV (n := 1) (k0 := 0) (n0 := 0) hC hX (c_X3_look _ j hj) gX3_frame_X3_look rfl (by decide +kernel) ⟨rfl, rfl⟩ (by rw [hR]; exact ⟨by decide, by decide⟩) (by rw [hR]; exact ⟨by decide, by decide⟩) rfl rfl rfl (by first | decide | (show _ < 5; omega) | (show _ < 10; omega) | omega) rfl rfl rfl (Nat.le_of_ble_eq_true rfl) dX3_frame_76 ?_
              simp only [gm_r0, gm_r1]
              refine go_iinc (v := 1) hC dX3_frame_79 rfl (by decide) ?_
              simp only [gm_s0, gm_s1]
              refine go_goto hC 59 dX3_frame_82 (by decide) ?_
              rw [nI_1]
              refine go_mem ?_ ih
              rw [iter_s lk2 j]
              first | exact (if_neg h71).symm | exact (if_pos h71).symm
      try dsimp only at lp59
      rw [iter_0] at lp59
      exact lp59
    ·
      rw [fbM, faM, gm_un2 (by decide), gm_un2 (by decide), gm_un2 (by decide)] at h42
      refine go_aload_n hC dX3_frame_45 rfl ?_
      refine go_iconst (v := 0) hC dX3_frame_46 (by decide) ?_
      refine go_puti (ci := 3) hC 10 kwX3_frame_3 rfl tyX3 tyX3_ok nmX3 rfl (by decide) rfl lkX3_frame_129 (by first | decide | (show _ < 5; omega) | (show _ < 10; omega) | omega) rfl (by decide) (by decide) dX3_frame_47 ?_
      show GO lyM X 0 0 50 _ _ (fqM G)
      refine go_aload_n hC dX3_frame_50 rfl ?_
      refine go_callV (n := 0) (k0 := 0) (n0 := 0) hC hX (c_X3_quietFrame (fqM G)) gX3_frame_X3_quietFrame rfl (by decide +kernel) ⟨rfl, rfl⟩ (by rw [hR]; exact ⟨by decide, by decide⟩) (by rw [hR]; exact ⟨by decide, by decide⟩) rfl rfl rfl (by first | decide | (show _ < 5; omega) | (show _ < 10; omega) | omega) rfl rfl rfl (Nat.le_of_ble_eq_true rfl) dX3_frame_51 ?_
      simp only [gm_r0, gm_r1]
      refine go_bipush (v := (-2)) hC dX3_frame_54 (by decide) ?_
      refine go_cast ?_ ?_ (hE _ _ dX3_frame_56)
      · rw [show fR G o b = _ from if_pos h24, if_neg h42]
      · rw [show fM G o b = _ from if_pos h24, if_neg h42]
  ·
    rw [faM, gm_un1 (by decide), gm_un1 (by decide)] at h24
    refine go_aload_n hC dX3_frame_27 rfl ?_
    refine go_callV (n := 0) (k0 := 0) (n0 := 0) hC hX (c_X3_darkFrame (faM G) o ((gm_un2 (by decide)).trans ((gm_un2 (by decide)).trans ho)) ho1) gX3_frame_X3_darkFrame rfl (by decide +kernel) ⟨rfl, rfl⟩ (by rw [hR]; exact ⟨by decide, by decide⟩) (by rw [hR]; exact ⟨by decide, by decide⟩) rfl rfl rfl (by first | decide | (show _ < 5; omega) | (show _ < 10; omega) | omega) rfl rfl rfl (Nat.le_of_ble_eq_true rfl) dX3_frame_28 ?_
    simp only [gm_r0, gm_r1]
    refine go_iconst (v := (-1)) hC dX3_frame_31 (by decide) ?_
    refine go_cast ?_ ?_ (hE _ _ dX3_frame_32)
    · rw [show fR G o b = -1 from if_neg h24]
    · rw [show fM G o b = _ from if_neg h24]
