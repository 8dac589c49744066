/-! ===== each call, side by side ===== -/
theorem cod1_0 {th : Option String} (h : cod1 th = 0) : th = none := by
  cases th with
  | none => rfl
  | some E =>
    exfalso
    unfold cod1 at h
    dsimp only at h
    by_cases q : E = "java/lang/IllegalArgumentException"
    · rw [if_pos q] at h; exact absurd h (by decide)
    · rw [if_neg q] at h; exact absurd h (by decide)
theorem cod2_0 {th : Option String} (h : cod2 th = 0) : th = none := by
  cases th with
  | none => rfl
  | some E =>
    exfalso
    unfold cod2 at h
    dsimp only at h
    by_cases q : E = "java/lang/IndexOutOfBoundsException"
    · rw [if_pos q] at h; exact absurd h (by decide)
    · rw [if_neg q] at h; exact absurd h (by decide)
theorem oW_eq {th : Option String} {v b : Int32} (hk : th = none) (hv : th = none → v = b) (w : Int64) : oW th v w = b.toInt64 := by
  rw [hv hk, hk]; rfl
theorem tO_same {th : Option String} {M : gm_M} : tO th M M = M := by cases th <;> rfl
set_option maxHeartbeats 2000000 in
theorem ag_plug {M G : gm_M} (h : RR M G) (a y : Int32) : ∃ (kk : Int32) (M2 : gm_M) (wf : Int64 → Int64) (G2 : gm_M) (bv : Int32), KH yL_plug wsL_plug { frames := 7, cells := 1, slots := 6, locals := 114 } (fun ad oa => [.ref (ad 2 0), .int a, .int y, .ref oa]) M kk M2 wf 1 6 ∧ KC lyM yX3_plug wsX3_plug { frames := 1, cells := 0, slots := 0, locals := 21 } (fun ad => [.ref (ad 0 0), .int a, .int y]) G (fun _ => some (.int bv)) G2 ∧ kk = G2 0 0 0 ∧ (kk = 0 → ∀ w, wf w = bv.toInt64) ∧ RR M2 G2 := by
  obtain ⟨s1, s2, s3⟩ := sim_plug h a y
  exact ⟨_, _, _, _, _, h_plug M a y, c_X3_plug G a y, s1, fun hk w => oW_eq (cod1_0 hk) s2 w, s3⟩
set_option maxHeartbeats 2000000 in
theorem ag_unplug {M G : gm_M} (h : RR M G) (u : Int32) : ∃ (kk : Int32) (M2 : gm_M) (wf : Int64 → Int64) (G2 : gm_M), KH yL_unplug wsL_unplug { frames := 9, cells := 2, slots := 12, locals := 154 } (fun ad oa => [.ref (ad 2 0), .int u]) M kk M2 wf 2 12 ∧ KC lyM yX3_unplug wsX3_unplug { frames := 1, cells := 0, slots := 0, locals := 21 } (fun ad => [.ref (ad 0 0), .int u]) G (fun _ => none) G2 ∧ kk = G2 0 0 0 ∧ RR M2 G2 := by
  obtain ⟨s1, s3⟩ := sim_unplug h u
  exact ⟨_, _, _, _, h_unplug M u, c_X3_unplug G u, s1, s3⟩
set_option maxHeartbeats 2000000 in
theorem ag_contract {M G : gm_M} (h : RR M G) (u c f a m g : Int32) : ∃ (kk : Int32) (M2 : gm_M) (wf : Int64 → Int64) (G2 : gm_M), KH yL_contract wsL_contract { frames := 10, cells := 4, slots := 24, locals := 182 } (fun ad oa => [.ref (ad 2 0), .int u, .int c, .int f, .int a, .int m, .int g]) M kk M2 wf 4 24 ∧ KC lyM yX3_contract wsX3_contract { frames := 2, cells := 0, slots := 0, locals := 43 } (fun ad => [.ref (ad 0 0), .int u, .int c, .int f, .int a, .int m, .int g]) G (fun _ => none) G2 ∧ kk = G2 0 0 0 ∧ RR M2 G2 := by
  obtain ⟨s1, s3⟩ := sim_contract h u c f a m g
  exact ⟨_, _, _, _, h_contract M u c f a m g, c_X3_contract G u c f a m g, s1, s3⟩
set_option maxHeartbeats 2000000 in
theorem ag_drift {M G : gm_M} (h : RR M G) (u a : Int32) : ∃ (kk : Int32) (M2 : gm_M) (wf : Int64 → Int64) (G2 : gm_M), KH yL_drift wsL_drift { frames := 9, cells := 3, slots := 18, locals := 156 } (fun ad oa => [.ref (ad 2 0), .int u, .int a]) M kk M2 wf 3 18 ∧ KC lyM yX3_drift wsX3_drift { frames := 1, cells := 0, slots := 0, locals := 21 } (fun ad => [.ref (ad 0 0), .int u, .int a]) G (fun _ => none) G2 ∧ kk = G2 0 0 0 ∧ RR M2 G2 := by
  obtain ⟨s1, s3⟩ := sim_drift h u a
  exact ⟨_, _, _, _, h_drift M u a, c_X3_drift G u a, s1, s3⟩
set_option maxHeartbeats 2000000 in
theorem ag_send {M G : gm_M} (h : RR M G) (u c b : Int32) : ∃ (kk : Int32) (M2 : gm_M) (wf : Int64 → Int64) (G2 : gm_M) (bv : Int32), KH yL_send wsL_send { frames := 10, cells := 4, slots := 24, locals := 179 } (fun ad oa => [.ref (ad 2 0), .int u, .int c, .int b, .ref oa]) M kk M2 wf 4 24 ∧ KC lyM yX3_send wsX3_send { frames := 2, cells := 0, slots := 0, locals := 43 } (fun ad => [.ref (ad 0 0), .int u, .int c, .int b]) G (fun _ => some (.int bv)) G2 ∧ kk = G2 0 0 0 ∧ (kk = 0 → ∀ w, wf w = bv.toInt64) ∧ RR M2 G2 := by
  have h9 := h
  obtain ⟨-, -, -, -, d, aa, q, num, hD⟩ := h9
  have hD9 := hD
  obtain ⟨d1, d2, -, -, -, -, d7, d8, d9, d10, d11, -⟩ := hD9
  obtain ⟨s1, s2, s3⟩ := sim_send h u c b hD
  exact ⟨_, _, _, _, _, h_send M u c b q (fun n hn => ⟨(d1 n hn).1, (d1 n hn).2.1⟩), c_X3_send G u c b q (fun n hn => ⟨(d1 n hn).2.2, (d1 n hn).2.1⟩) d d7 d8, s1, fun hk w => oW_eq (cod1_0 hk) s2 w, s3⟩
set_option maxHeartbeats 2000000 in
theorem ag_key {M G : gm_M} (h : RR M G) (u a : Int32) : ∃ (kk : Int32) (M2 : gm_M) (wf : Int64 → Int64) (G2 : gm_M), KH yL_key wsL_key { frames := 9, cells := 3, slots := 18, locals := 156 } (fun ad oa => [.ref (ad 2 0), .int u, .int a]) M kk M2 wf 3 18 ∧ KC lyM yX3_key wsX3_key { frames := 1, cells := 0, slots := 0, locals := 21 } (fun ad => [.ref (ad 0 0), .int u, .int a]) G (fun _ => none) G2 ∧ kk = G2 0 0 0 ∧ RR M2 G2 := by
  obtain ⟨s1, s3⟩ := sim_key h u a
  exact ⟨_, _, _, _, h_key M u a, c_X3_key G u a, s1, s3⟩
set_option maxHeartbeats 2000000 in
theorem ag_down {M G : gm_M} (h : RR M G) (u a : Int32) : ∃ (kk : Int32) (M2 : gm_M) (wf : Int64 → Int64) (G2 : gm_M), KH yL_down wsL_down { frames := 9, cells := 2, slots := 12, locals := 156 } (fun ad oa => [.ref (ad 2 0), .int u, .int a]) M kk M2 wf 2 12 ∧ KC lyM yX3_down wsX3_down { frames := 1, cells := 0, slots := 0, locals := 21 } (fun ad => [.ref (ad 0 0), .int u, .int a]) G (fun _ => none) G2 ∧ kk = G2 0 0 0 ∧ RR M2 G2 := by
  obtain ⟨s1, s3⟩ := sim_down h u a
  exact ⟨_, _, _, _, h_down M u a, c_X3_down G u a, s1, s3⟩
set_option maxHeartbeats 2000000 in
theorem ag_spoil {M G : gm_M} (h : RR M G) (u : Int32) : ∃ (kk : Int32) (M2 : gm_M) (wf : Int64 → Int64) (G2 : gm_M), KH yL_spoil wsL_spoil { frames := 9, cells := 2, slots := 12, locals := 154 } (fun ad oa => [.ref (ad 2 0), .int u]) M kk M2 wf 2 12 ∧ KC lyM yX3_spoil wsX3_spoil { frames := 1, cells := 0, slots := 0, locals := 21 } (fun ad => [.ref (ad 0 0), .int u]) G (fun _ => none) G2 ∧ kk = G2 0 0 0 ∧ RR M2 G2 := by
  obtain ⟨s1, s3⟩ := sim_spoil h u
  exact ⟨_, _, _, _, h_spoil M u, c_X3_spoil G u, s1, s3⟩
set_option maxHeartbeats 2000000 in
theorem ag_feeder {M G : gm_M} (h : RR M G) (f z : Int32) : ∃ (kk : Int32) (M2 : gm_M) (wf : Int64 → Int64) (G2 : gm_M), KH yL_feeder wsL_feeder { frames := 7, cells := 1, slots := 6, locals := 112 } (fun ad oa => [.ref (ad 2 0), .int f, .int z]) M kk M2 wf 1 6 ∧ KC lyM yX3_feeder wsX3_feeder { frames := 0, cells := 0, slots := 0, locals := 0 } (fun ad => [.ref (ad 0 0), .int f, .int z]) G (fun _ => none) G2 ∧ kk = G2 0 0 0 ∧ RR M2 G2 := by
  obtain ⟨s1, s3⟩ := sim_feeder h f z
  exact ⟨_, _, _, _, h_feeder M f z, c_X3_feeder G f z, s1, s3⟩
set_option maxHeartbeats 2000000 in
theorem ag_unit {M G : gm_M} (h : RR M G) (u y : Int32) : ∃ (kk : Int32) (M2 : gm_M) (wf : Int64 → Int64) (G2 : gm_M) (bv : Int32), KH yL_unit wsL_unit { frames := 8, cells := 2, slots := 12, locals := 134 } (fun ad oa => [.ref (ad 2 0), .int u, .int y, .ref oa]) M kk M2 wf 2 12 ∧ KC lyM yX3_unit wsX3_unit { frames := 2, cells := 0, slots := 0, locals := 42 } (fun ad => [.ref (ad 0 0), .int u, .int y]) G (fun _ => some (.int bv)) G2 ∧ kk = G2 0 0 0 ∧ (kk = 0 → ∀ w, wf w = bv.toInt64) ∧ RR M2 G2 := by
  obtain ⟨s1, s2, s3⟩ := sim_unit h u y
  exact ⟨_, _, _, _, _, h_unit M u y, c_X3_unit G u y, s1, fun hk w => oW_eq (cod1_0 hk) s2 w, s3⟩
set_option maxHeartbeats 2000000 in
theorem ag_container {M G : gm_M} (h : RR M G) (u c y : Int32) : ∃ (kk : Int32) (M2 : gm_M) (wf : Int64 → Int64) (G2 : gm_M) (bv : Int32), KH yL_container wsL_container { frames := 8, cells := 3, slots := 18, locals := 135 } (fun ad oa => [.ref (ad 2 0), .int u, .int c, .int y, .ref oa]) M kk M2 wf 3 18 ∧ KC lyM yX3_container wsX3_container { frames := 1, cells := 0, slots := 0, locals := 23 } (fun ad => [.ref (ad 0 0), .int u, .int c, .int y]) G (fun _ => some (.int bv)) G2 ∧ kk = G2 0 0 0 ∧ (kk = 0 → ∀ w, wf w = bv.toInt64) ∧ RR M2 G2 := by
  have h9 := h
  obtain ⟨-, -, -, -, d, aa, q, num, hD⟩ := h9
  have hD9 := hD
  obtain ⟨d1, d2, -, -, -, -, d7, d8, d9, d10, d11, -⟩ := hD9
  obtain ⟨s1, s2, s3⟩ := sim_container h u c y hD
  exact ⟨_, _, _, _, _, h_container M u c y q (fun n hn => ⟨(d1 n hn).1, (d1 n hn).2.1⟩), c_X3_container G u c y q (fun n hn => ⟨(d1 n hn).2.2, (d1 n hn).2.1⟩) (fun n hn k hk => by
      obtain ⟨-, g2, g3, -⟩ := d2 n k hn hk
      have g4 : uN (G 28 (8 * n + k) 0) = num n k := by rw [g2]; exact nI_clamp (by omega)
      rw [g4]
      exact ⟨g2, by omega⟩), s1, fun hk w => oW_eq (cod1_0 hk) s2 w, s3⟩
set_option maxHeartbeats 2000000 in
theorem ag_came {M G : gm_M} (h : RR M G) (k y : Int32) : ∃ (kk : Int32) (M2 : gm_M) (wf : Int64 → Int64) (G2 : gm_M) (bv : Int32), KH yL_came wsL_came { frames := 7, cells := 1, slots := 6, locals := 112 } (fun ad oa => [.ref (ad 2 0), .int k, .int y, .ref oa]) M kk M2 wf 1 6 ∧ KC lyM yX3_came wsX3_came { frames := 0, cells := 0, slots := 0, locals := 0 } (fun ad => [.ref (ad 0 0), .int k, .int y]) G (fun _ => some (.int bv)) G2 ∧ kk = G2 0 0 0 ∧ (kk = 0 → ∀ w, wf w = bv.toInt64) ∧ RR M2 G2 := by
  have h9 := h
  obtain ⟨-, -, -, -, d, aa, q, num, hD⟩ := h9
  have hD9 := hD
  obtain ⟨d1, d2, -, -, -, -, d7, d8, d9, d10, d11, -⟩ := hD9
  obtain ⟨s1, s2, s3⟩ := sim_came h k y
  have s3 : RR (tO _ M M) _ := (tO_same (th := thF (k < 0 ∨ ¬ k < M 2 11 0) "java/lang/IndexOutOfBoundsException" (thF (y < 0 ∨ ¬ y < 4) "java/lang/IllegalArgumentException" none)) (M := M)).symm ▸ s3
  exact ⟨_, _, _, _, _, h_came M k y aa d9 (by omega), c_X3_came G k y aa d10 (by omega), s1, fun hk w => oW_eq (cod2_0 hk) s2 w, s3⟩
set_option maxHeartbeats 2000000 in
theorem ag_count {M G : gm_M} (h : RR M G) (y : Int32) : ∃ (kk : Int32) (M2 : gm_M) (wf : Int64 → Int64) (G2 : gm_M) (bv : Int32), KH yL_count wsL_count { frames := 7, cells := 1, slots := 6, locals := 111 } (fun ad oa => [.ref (ad 2 0), .int y, .ref oa]) M kk M2 wf 1 6 ∧ KC lyM yX3_count wsX3_count { frames := 0, cells := 0, slots := 0, locals := 0 } (fun ad => [.ref (ad 0 0), .int y]) G (fun _ => some (.int bv)) G2 ∧ kk = G2 0 0 0 ∧ (kk = 0 → ∀ w, wf w = bv.toInt64) ∧ RR M2 G2 := by
  obtain ⟨s1, s2, s3⟩ := sim_count h y
  exact ⟨_, _, _, _, _, h_count M y, c_X3_count G y, s1, fun hk w => oW_eq (cod1_0 hk) s2 w, s3⟩
theorem ag_discover {M G : gm_M} (h : RR M G) : ∃ (M2 G2 : gm_M), KC lyC yX2_discover wsX2_discover { frames := 0, cells := 0, slots := 0, locals := 0 } (fun ad => [.ref (ad 2 0)]) M (fun _ => none) M2 ∧ KC lyM yX3_discover wsX3_discover { frames := 0, cells := 0, slots := 0, locals := 0 } (fun ad => [.ref (ad 0 0)]) G (fun _ => none) G2 ∧ RR M2 G2 := ⟨_, _, c_X2_discover M, c_X3_discover G, sim_discover h⟩
theorem ag_frame {M G : gm_M} (h : RR M G) : ∃ (M2 G2 : gm_M) (bv : Int32), KC lyC yX2_frame wsX2_frame { frames := 4, cells := 0, slots := 0, locals := 103 } (fun ad => [.ref (ad 2 0)]) M (fun _ => some (.int bv)) M2 ∧ KC lyM yX3_frame wsX3_frame { frames := 3, cells := 0, slots := 0, locals := 68 } (fun ad => [.ref (ad 0 0)]) G (fun _ => some (.int bv)) G2 ∧ RR M2 G2 := by
  obtain ⟨o, b, h1, h2, h3, h4, h5, h6, h7, h8, h9, h10⟩ := sim_frame h
  refine ⟨_, _, fR G o b, ?_, c_X3_frame G o b h2 h3 h4 (fun _ _ => h7) (fun _ _ => h8), h10⟩
  have q := c_X2_frame M o b h1 h3 h4 (fun _ _ => h5) (fun _ _ => h6)
  rw [h9] at q
  exact q
