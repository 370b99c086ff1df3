/-! ===== sticks, call by call ===== -/
theorem t0_S : qS T0 := fun k hk => match k, hk with
  | 0, _ => ⟨rfl, rfl, rfl, rfl⟩
  | 1, _ => ⟨rfl, rfl, rfl, rfl⟩
  | 2, _ => ⟨rfl, rfl, rfl, rfl⟩
  | 3, _ => ⟨rfl, rfl, rfl, rfl⟩
theorem t0_C : qC T0 := ⟨fun c hc => match c, hc with
  | 0, _ => ⟨rfl, rfl⟩
  | 1, _ => ⟨rfl, rfl⟩
  | 2, _ => ⟨rfl, rfl⟩, fun c j hc _ => match c, hc with
  | 0, _ => rfl
  | 1, _ => rfl
  | 2, _ => rfl⟩
theorem t0_A : qA T0 := fun k hk => match k, hk with
  | 0, _ => ⟨rfl, fun _ _ => rfl⟩
  | 1, _ => ⟨rfl, fun _ _ => rfl⟩
  | 2, _ => ⟨rfl, fun _ _ => rfl⟩
  | 3, _ => ⟨rfl, fun _ _ => rfl⟩
theorem t0_Z : FZ T0 := fun c hc i _ => match c, hc with
  | 0, _ => rfl
  | 1, _ => rfl
  | 2, _ => rfl
  | 3, _ => rfl
theorem t0_6 : ∀ c, c < 3 → T0 (15 + 6 * c) 6 = 1 := fun c hc => match c, hc with
  | 0, _ => rfl
  | 1, _ => rfl
  | 2, _ => rfl
theorem t0_4 : ∀ c, c < 3 → T0 (15 + 6 * c) 4 = 0 := fun c hc => match c, hc with
  | 0, _ => rfl
  | 1, _ => rfl
  | 2, _ => rfl
theorem t0_5 : ∀ c, c < 4 → T0 (15 + 6 * c) 5 = -1 := fun c hc => match c, hc with
  | 0, _ => rfl
  | 1, _ => rfl
  | 2, _ => rfl
  | 3, _ => rfl
theorem t0_w : ∀ c, c < 3 → ∀ i, T0 (17 + 6 * c) i = 0 := fun c hc i => match c, hc with
  | 0, _ => rfl
  | 1, _ => rfl
  | 2, _ => rfl
theorem t0_m : ∀ c, c < 3 → T0 (16 + 6 * c) 2 = 0 := fun c hc => match c, hc with
  | 0, _ => rfl
  | 1, _ => rfl
  | 2, _ => rfl
theorem ins_l {n : Nat} (hn : n < 8000) (σ : TS) : sX6_isInstruction 108 3 (nI n) σ = some (1, σ) := by
  have e : sX6_isInstruction 108 3 (nI n) σ = ((sX5_isNumber (nI n) σ).bind (fun z => sX6_isInstruction_108 z.1 z.2)) := rfl
  have h1 : ¬ nI n < (-32768 : Int32) := by
    rw [lt_iff, nI_toInt (by omega), show (-32768 : Int32).toInt = -32768 by decide]
    omega
  have h2 : ¬ (32767 : Int32) < nI n := nI_nlt (a := 32767) (by omega) (by decide)
  rw [e]
  unfold sX5_isNumber sX5_isNumber_0 sX5_isWithin sX5_isWithin_0
  rw [if_neg h1, if_neg h2]
  rfl
theorem sticks_all {n b w : Nat} (hn : n < 8000) (hb : b < 14) (hw : w < 3) {v : Int32} (hv : v = if (nI n >>> (nI b &&& 31)) &&& 1 = 0 then 1 else 0) :
    ∃ σ1 σ2 σ3 σ4 σ5 σ6 σ7 σ8 σ9 σ10 σ11 σ12 σ13 σ14 y,
      (sX8_code (2 : Int32) (lchr (108 : Int32)) (3 : Int32) (nI n) T0 = some (.inl 1, σ1) ∧ sX8_code (2 : Int32) (lchr (111 : Int32)) (3 : Int32) (1 : Int32) σ1 = some (.inl 2, σ2) ∧ sX8_code (2 : Int32) (lchr (109 : Int32)) (3 : Int32) (5 : Int32) σ2 = some (.inl 3, σ3) ∧ sX8_slot (0 : Int32) (1 : Int32) (2 : Int32) σ3 = some (.inl (-1), σ4)) ∧
      (sX8_stick (nI w) (3 : Int32) (nI b) v σ4 = some (.inl 0, σ5) ∧ sX8_stick (nI w) (3 : Int32) (nI b) v σ5 = some (.inl 1, σ6)) ∧
      (sX8_frame σ6 = some (3, σ7) ∧ sX8_strikes (nI w) σ7 = some (.inl 1, σ7) ∧ sX8_output (1 : Int32) σ7 = some (.inl (nI n), σ7) ∧ sX8_word (nI w) (2 : Int32) (5 : Int32) σ7 = some (.inl (wr n b), σ7)) ∧
      (sX8_frame σ7 = some (3, σ8) ∧ sX8_strikes (nI w) σ8 = some (.inl 2, σ8) ∧ sX8_output (1 : Int32) σ8 = some (.inl (nI n), σ8) ∧ sX8_word (nI w) (2 : Int32) (5 : Int32) σ8 = some (.inl (wr n b), σ8)) ∧
      (sX8_frame σ8 = some (2, σ9) ∧ sX8_strikes (nI w) σ9 = some (.inl 3, σ9) ∧ sX8_output (1 : Int32) σ9 = some (.inl (nI n), σ9) ∧ sX8_word (nI w) (2 : Int32) (5 : Int32) σ9 = some (.inl y, σ9)) ∧
      (sX8_line (0 : Int32) (lchr (114 : Int32)) σ9 = some (.inl 118, σ9) ∧ sX8_line (0 : Int32) (lchr (99 : Int32)) σ9 = some (.inl (nI w), σ9) ∧ sX8_line (0 : Int32) (lchr (116 : Int32)) σ9 = some (.inl 3, σ9)) ∧
      (sX8_test (nI w) σ9 = some (.inl 0, σ9) ∧ sX8_back (nI w) σ9 = some (.inr 4, σ9) ∧ sX8_fix (nI w) σ9 = some (.inl 1, σ10) ∧ sX8_fix (nI w) σ10 = some (.inl 0, σ11) ∧ sX8_test (nI w) σ11 = some (.inl 1, σ12) ∧ sX8_back (nI w) σ12 = some (.inl 3, σ13)) ∧
      (sX8_strikes (nI w) σ13 = some (.inl 0, σ13) ∧ sX8_word (nI w) (2 : Int32) (5 : Int32) σ13 = some (.inl (nI n), σ13) ∧ sX8_frame σ13 = some (3, σ14) ∧ sX8_strikes (nI w) σ14 = some (.inl 0, σ14) ∧ sX8_output (1 : Int32) σ14 = some (.inl (nI n), σ14) ∧ sX8_isPlain σ14 = some (1, σ14) ∧ sX8_isTrue σ14 = some (1, σ14)) := by
  have hz : zok v = true := by rw [hv]; split <;> rfl
  obtain ⟨σ1, d1⟩ : ∃ x, x = st2 (st2 (st2 (st2 T0 (40 + 4 * 2) 0 108) (41 + 4 * 2) 0 3) (42 + 4 * 2) 0 (nI n)) (39 + 4 * 2) 3 (nI (0 + 1)) := ⟨_, rfl⟩
  obtain ⟨σ2, d2⟩ : ∃ x, x = st2 (st2 (st2 (st2 σ1 (40 + 4 * 2) 1 111) (41 + 4 * 2) 1 3) (42 + 4 * 2) 1 1) (39 + 4 * 2) 3 (nI (1 + 1)) := ⟨_, rfl⟩
  obtain ⟨σ3, d3⟩ : ∃ x, x = st2 (st2 (st2 (st2 σ2 (40 + 4 * 2) 2 109) (41 + 4 * 2) 2 3) (42 + 4 * 2) 2 5) (39 + 4 * 2) 3 (nI (2 + 1)) := ⟨_, rfl⟩
  obtain ⟨σ4, d4⟩ : ∃ x, x = st2 σ3 (3 + 0) 1 (nI 2) := ⟨_, rfl⟩
  have x1 : ∀ a j, a < 47 ∨ 50 < a → σ1 a j = T0 a j := fun a j h => by rw [d1, st2_ne _ _ _ (by omega), st2_ne _ _ _ (by omega), st2_ne _ _ _ (by omega), st2_ne _ _ _ (by omega)]
  have x2 : ∀ a j, a < 47 ∨ 50 < a → σ2 a j = T0 a j := fun a j h => by rw [d2, st2_ne _ _ _ (by omega), st2_ne _ _ _ (by omega), st2_ne _ _ _ (by omega), st2_ne _ _ _ (by omega)]; exact x1 a j h
  have x3 : ∀ a j, a < 47 ∨ 50 < a → σ3 a j = T0 a j := fun a j h => by rw [d3, st2_ne _ _ _ (by omega), st2_ne _ _ _ (by omega), st2_ne _ _ _ (by omega), st2_ne _ _ _ (by omega)]; exact x2 a j h
  have x4 : ∀ a j, a < 47 ∨ 50 < a → ¬ (a = 3 ∧ j = 1) → σ4 a j = T0 a j := fun a j h h2 => by rw [d4, st2_off _ _ (by omega)]; exact x3 a j h
  have pg3 : PG n σ3 := by
    rw [d3, d2, d1]
    exact ⟨rfl, ⟨rfl, rfl, rfl⟩, ⟨rfl, rfl, rfl⟩, rfl, rfl, rfl⟩
  have pg4 : PG n σ4 := PG_cg (fun a h1 h2 j hj => by rw [d4, st2_ne _ _ _ (by omega)]) pg3
  have c1 : sX8_code (2 : Int32) (lchr (108 : Int32)) (3 : Int32) (nI n) T0 = some (.inl 1, σ1) := by
    rw [show lchr (108 : Int32) = 108 by decide, d1]
    exact k_code (p := 2) (s := 0) (by decide) rfl (by decide) (ins_l hn T0) rfl
  have c2 : sX8_code (2 : Int32) (lchr (111 : Int32)) (3 : Int32) (1 : Int32) σ1 = some (.inl 2, σ2) := by
    rw [show lchr (111 : Int32) = 111 by decide, d2]
    exact k_code (p := 2) (s := 1) (by decide) (by rw [d1]; rfl) (by decide) rfl rfl
  have c3 : sX8_code (2 : Int32) (lchr (109 : Int32)) (3 : Int32) (5 : Int32) σ2 = some (.inl 3, σ3) := by
    rw [show lchr (109 : Int32) = 109 by decide, d3]
    exact k_code (p := 2) (s := 2) (by decide) (by rw [d2]; rfl) (by decide) rfl rfl
  have c4 : sX8_slot (0 : Int32) (1 : Int32) (2 : Int32) σ3 = some (.inl (-1), σ4) := by
    have h := k_slot (σ := σ3) (m := 0) (i := 1) (p := 2) (by decide) (by decide) (by decide)
    rw [x3 (3 + 0) 1 (by decide)] at h
    rw [d4]
    exact h
  obtain ⟨σ5, d5⟩ : ∃ x, x = st2 (st2 (st2 (st2 (st2 σ4 0 14 1) (15 + 6 * w) 5 (nI 3)) (15 + 6 * w) 9 (nI b)) (15 + 6 * w) 10 v) (15 + 6 * w) 7 0 := ⟨_, rfl⟩
  obtain ⟨σ6, d6⟩ : ∃ x, x = st2 (st2 (st2 (st2 (st2 σ5 0 14 1) (15 + 6 * w) 5 (nI 3)) (15 + 6 * w) 9 (nI b)) (15 + 6 * w) 10 v) (15 + 6 * w) 7 0 := ⟨_, rfl⟩
  have x5 : ∀ a j, ¬ (a = 0 ∧ j = 14) → ¬ (a = 15 + 6 * w ∧ (j = 5 ∨ j = 9 ∨ j = 10 ∨ j = 7)) → σ5 a j = σ4 a j := fun a j h h2 => by rw [d5, st2_off _ _ (by omega), st2_off _ _ (by omega), st2_off _ _ (by omega), st2_off _ _ (by omega), st2_off _ _ h]
  have x6 : ∀ a j, ¬ (a = 0 ∧ j = 14) → ¬ (a = 15 + 6 * w ∧ (j = 5 ∨ j = 9 ∨ j = 10 ∨ j = 7)) → σ6 a j = σ4 a j := fun a j h h2 => by rw [d6, st2_off _ _ (by omega), st2_off _ _ (by omega), st2_off _ _ (by omega), st2_off _ _ (by omega), st2_off _ _ h]; exact x5 a j h h2
  have c5 : sX8_stick (nI w) (3 : Int32) (nI b) v σ4 = some (.inl 0, σ5) := by
    have h := k_stick (σ := σ4) (w := w) (r := 3) (b := b) (v := v) hw (by decide) (by omega) hz
    rw [x4 (15 + 6 * w) 5 (by omega) (by omega), t0_5 w (by omega), if_pos rfl, ← d5] at h
    exact h
  have c6 : sX8_stick (nI w) (3 : Int32) (nI b) v σ5 = some (.inl 1, σ6) := by
    have h := k_stick (σ := σ5) (w := w) (r := 3) (b := b) (v := v) hw (by decide) (by omega) hz
    rw [← d6, show σ5 (15 + 6 * w) 5 = nI 3 by rw [d5, st2_off _ _ (by omega), st2_off _ _ (by omega), st2_off _ _ (by omega), st2_eq], if_neg (nI_ne_m1 (by decide))] at h
    exact h
  have y6 : ∀ a j, a < 47 ∨ 50 < a → ¬ (a = 3 ∧ j = 1) → ¬ (a = 0 ∧ j = 14) → ¬ (a = 15 + 6 * w ∧ (j = 5 ∨ j = 9 ∨ j = 10 ∨ j = 7)) → σ6 a j = T0 a j := fun a j h1 h2 h3 h4 => by rw [x6 a j h3 h4, x4 a j h1 h2]
  have s0 : SS n b w v 0 σ6 := by
    refine ⟨⟨qS_cj (fun a j h1 h2 => y6 a j (by omega) (by omega) (by omega) (by omega)) t0_S, qC_cg (fun c hc => ⟨y6 _ _ (by omega) (by omega) (by omega) (by omega), y6 _ _ (by omega) (by omega) (by omega) (by omega), fun j => y6 _ _ (by omega) (by omega) (by omega) (by omega)⟩) t0_C, qA_cg (fun a j h1 => y6 a j (by omega) (by omega) (by omega) (by omega)) t0_A, FZ_cg (fun c hc j hj => y6 _ _ (by omega) (by omega) (by omega) (by omega)) t0_Z⟩, PG_cg (fun a h1 h2 j hj => x6 a j (by omega) (by omega)) pg4, ⟨?_, ?_, ?_, ?_, ?_⟩, fun c hc => ?_, fun c hc => ?_, ⟨?_, ?_, ?_⟩, fun c hc hcw => ?_, ?_, fun i hi hi1 => ?_, ?_⟩
    · exact (y6 0 10 (by decide) (by decide) (by decide) (by omega)).trans rfl
    · exact (y6 0 11 (by decide) (by decide) (by decide) (by omega)).trans rfl
    · exact (y6 3 0 (by decide) (by decide) (by decide) (by omega)).trans rfl
    · rw [x6 3 1 (by decide) (by omega), d4]
      exact st2_eq _ _ _ _
    · exact (y6 3 2 (by decide) (by decide) (by decide) (by omega)).trans rfl
    · rw [y6 _ _ (by omega) (by omega) (by omega) (by omega), t0_6 c hc]
      decide
    · rw [y6 _ _ (by omega) (by omega) (by omega) (by omega), t0_4 c hc]
      split <;> rfl
    · rw [d6, st2_off _ _ (by omega), st2_off _ _ (by omega), st2_off _ _ (by omega), st2_eq]
    · rw [d6, st2_off _ _ (by omega), st2_off _ _ (by omega), st2_eq]
    · rw [d6, st2_off _ _ (by omega), st2_eq]
    · rw [y6 _ _ (by omega) (by omega) (by omega) (by omega)]
      exact t0_5 c hc
    · exact (y6 11 3 (by decide) (by decide) (by decide) (by omega)).trans rfl
    · rw [y6 9 i (by omega) (by omega) (by omega) (by omega), y6 10 i (by omega) (by omega) (by omega) (by omega)]
      rfl
    · rw [d6, st2_off _ _ (by omega), st2_off _ _ (by omega), st2_off _ _ (by omega), st2_off _ _ (by omega), st2_eq]
  have hword : ∀ u : TS, u (17 + 6 * w) 17 = wr n b → u (18 + 6 * w) 17 = 0 → sX8_word (nI w) (2 : Int32) (5 : Int32) u = some (.inl (wr n b), u) := fun u h1 h2 => by
    have h := k_word (w := w) (p := 2) (i := 5) hw (by decide) (by decide) u
    rw [show u (17 + 6 * w) (6 * 2 + 5) = wr n b from h1, show u (18 + 6 * w) (6 * 2 + 5) = 0 from h2, Int32.xor_zero, wr_short hn hb] at h
    exact h
  have hout : ∀ u : TS, u 9 1 = nI n → sX8_output (1 : Int32) u = some (.inl (nI n), u) := fun u h1 => by
    have h := k_output (w := 1) (by decide) u
    rw [h1] at h
    exact h
  obtain ⟨σ7, f7, s7, o7, w7, z7⟩ := SS_step hn hb hw hv (by decide) s0
  obtain ⟨σ8, f8, s8, o8, w8, z8⟩ := SS_step hn hb hw hv (by decide) s7
  obtain ⟨σ9, f9, s9⟩ := SS_off hn hb hw hv s8
  have k7 : sX8_strikes (nI w) σ7 = some (.inl 1, σ7) := by
    rw [k_strikes hw, s7.2.2.2.2.1 w hw, if_pos rfl]
    rfl
  have k8 : sX8_strikes (nI w) σ8 = some (.inl 2, σ8) := by
    rw [k_strikes hw, s8.2.2.2.2.1 w hw, if_pos rfl]
    rfl
  obtain ⟨⟨hqS, hqC, hqA, hz9⟩, hpg, ⟨h10, h11, q0, q1, q2⟩, hon, ⟨h6, h7⟩, h4, h5, h5n, ⟨l11, l12, l13, l14⟩, hpl, h14, h91, hw17⟩ := s9
  have k9 : sX8_strikes (nI w) σ9 = some (.inl 3, σ9) := by
    rw [k_strikes hw, h4 w hw, if_pos rfl]
    rfl
  obtain ⟨li1, li2, li3⟩ := k_line (σ := σ9) (n := 0) l11 (by decide)
  obtain ⟨σ10, d10⟩ : ∃ x, x = st2 σ9 (15 + 6 * w) 5 (-1) := ⟨_, rfl⟩
  obtain ⟨σ11, d11⟩ : ∃ x, x = st2 σ10 (15 + 6 * w) 5 (-1) := ⟨_, rfl⟩
  obtain ⟨σ12, d12⟩ : ∃ x, x = st2 σ11 (15 + 6 * w) 7 1 := ⟨_, rfl⟩
  have x12 : ∀ a j, ¬ (a = 15 + 6 * w ∧ (j = 5 ∨ j = 7)) → σ12 a j = σ9 a j := fun a j h => by rw [d12, st2_off _ _ (by omega), d11, st2_off _ _ (by omega), d10, st2_off _ _ (by omega)]
  have e5 : σ12 (15 + 6 * w) 5 = -1 := by rw [d12, st2_off _ _ (by omega), d11, st2_eq]
  have e7 : σ12 (15 + 6 * w) 7 ≠ 0 := by
    rw [d12, st2_eq]
    decide
  have m1 : sX8_test (nI w) σ9 = some (.inl 0, σ9) := by rw [k_test hw h6, h5, if_neg (nI_ne_m1 (by decide))]
  have m2 : sX8_back (nI w) σ9 = some (.inr 4, σ9) := k_back_no hw h6 h7 hon
  have m3 : sX8_fix (nI w) σ9 = some (.inl 1, σ10) := by rw [k_fix hw, h5, if_neg (nI_ne_m1 (by decide)), d10]
  have m4 : sX8_fix (nI w) σ10 = some (.inl 0, σ11) := by rw [k_fix hw, show σ10 (15 + 6 * w) 5 = -1 by rw [d10, st2_eq], if_pos rfl, d11]
  have m5 : sX8_test (nI w) σ11 = some (.inl 1, σ12) := by rw [k_test hw (by rw [d11, st2_off _ _ (by omega), d10, st2_off _ _ (by omega)]; exact h6), show σ11 (15 + 6 * w) 5 = -1 by rw [d11, st2_eq], if_pos rfl, d12]
  obtain ⟨m, σ13, hm, hmw, m6, g17, g4, g6, g2, gj, g11, g11j, g13, g14, gf, gl⟩ := k_back (σ := σ12) (w := w) (n := 1) hw ((x12 _ _ (by omega)).trans h6) e7 (fun c hc hcw => by rw [x12 _ _ (by omega)]; exact hon c hc hcw) (by decide) ((x12 _ _ (by omega)).trans l11) (fun c hc => (x12 _ _ (by omega)).trans (hqC.1 c hc).1)
  have x13 : ∀ a j, a ≠ 15 + 6 * w → a ≠ 17 + 6 * w → a ≠ 18 + 6 * w → a < 11 ∨ 14 < a → σ13 a j = σ9 a j := fun a j h1 h2 h3 h4 => by rw [gf a h1 h2 h3 (by omega) (by omega) (by omega) (by omega)]; exact x12 a j (by omega)
  have v5 : ∀ c, c < 4 → σ13 (15 + 6 * c) 5 = -1 := fun c hc => by
    by_cases hcw : c = w
    · subst hcw
      rw [gj 5 (by decide) (by decide) (by decide), e5]
    · rw [x13 _ _ (by omega) (by omega) (by omega) (by omega)]
      exact h5n c hc hcw
  have v6 : ∀ c, c < 3 → σ13 (15 + 6 * c) 6 ≠ 0 := fun c hc => by
    by_cases hcw : c = w
    · subst hcw
      rw [g6]
      decide
    · rw [x13 _ _ (by omega) (by omega) (by omega) (by omega)]
      exact hon c hc hcw
  have v4 : ∀ c, c < 3 → σ13 (15 + 6 * c) 4 = 0 := fun c hc => by
    by_cases hcw : c = w
    · subst hcw
      exact g4
    · rw [x13 _ _ (by omega) (by omega) (by omega) (by omega), h4 c hc, if_neg hcw]
  have vC : qC σ13 := ⟨fun c hc => by
    by_cases hcw : c = w
    · subst hcw
      exact ⟨g2, by rw [gj 3 (by decide) (by decide) (by decide), x12 _ _ (by omega)]; exact (hqC.1 c hc).2⟩
    · exact ⟨(x13 _ _ (by omega) (by omega) (by omega) (by omega)).trans (hqC.1 c hc).1, (x13 _ _ (by omega) (by omega) (by omega) (by omega)).trans (hqC.1 c hc).2⟩, fun c j hc hj => (x13 _ _ (by omega) (by omega) (by omega) (by omega)).trans (hqC.2 c j hc hj)⟩
  have vZ : FZ σ13 := fun c hc i hi => by
    by_cases hcw : c = w
    · subst hcw
      exact (g17 i hi).2
    · rw [x13 _ _ (by omega) (by omega) (by omega) (by omega)]
      exact hz9 c hc i hi
  have sb : SB n w σ13 := ⟨⟨qS_cj (fun a j h1 h2 => x13 a j (by omega) (by omega) (by omega) (by omega)) hqS, vC, qA_cg (fun a j h1 => x13 a j (by omega) (by omega) (by omega) (by omega)) hqA, vZ⟩, PG_cg (fun a h1 h2 j hj => x13 a j (by omega) (by omega) (by omega) (by omega)) hpg, ⟨(x13 _ _ (by omega) (by omega) (by omega) (by omega)).trans h10, (x13 _ _ (by omega) (by omega) (by omega) (by omega)).trans h11, (x13 _ _ (by omega) (by omega) (by omega) (by omega)).trans q0, (x13 _ _ (by omega) (by omega) (by omega) (by omega)).trans q1, (x13 _ _ (by omega) (by omega) (by omega) (by omega)).trans q2⟩, v6, v4, v5, g11, fun i hi => by rw [x13 9 i (by omega) (by omega) (by omega) (by omega), x13 10 i (by omega) (by omega) (by omega) (by omega)]; exact hpl i hi⟩
  obtain ⟨σ14, f14, a4, a9, apl, aon, a11⟩ := SB_step hn hw sb
  have n1 : sX8_strikes (nI w) σ13 = some (.inl 0, σ13) := by rw [k_strikes hw, g4]
  have n2 : sX8_word (nI w) (2 : Int32) (5 : Int32) σ13 = some (.inl (nI n), σ13) := by
    have h := k_word (w := w) (p := 2) (i := 5) hw (by decide) (by decide) σ13
    rw [show σ13 (17 + 6 * w) (6 * 2 + 5) = nI n from ((g17 17 (by decide)).1.trans (x12 _ _ (by omega))).trans (hw17 m hm hmw), show σ13 (18 + 6 * w) (6 * 2 + 5) = 0 from (g17 17 (by decide)).2, Int32.xor_zero, short_nI (by omega)] at h
    exact h
  have n4 : sX8_strikes (nI w) σ14 = some (.inl 0, σ14) := by rw [k_strikes hw, a4]
  have n7 : sX8_isTrue σ14 = some (1, σ14) := k_true (n := 2) (fun _ _ => apl) (fun c hc _ => by rw [(aon c hc).2]; decide) a11 (by decide) (fun c hc h => absurd h (aon c hc).1) (fun h => by
    obtain ⟨c, hc, h6⟩ := h
    exact absurd h6 (aon c hc).1)
  refine ⟨σ1, σ2, σ3, σ4, σ5, σ6, σ7, σ8, σ9, σ10, σ11, σ12, σ13, σ14, _, ⟨c1, c2, c3, c4⟩, ⟨c5, c6⟩, ⟨f7, k7, hout σ7 o7, hword σ7 w7 z7⟩, ⟨f8, k8, hout σ8 o8, hword σ8 w8 z8⟩, ⟨f9, k9, hout σ9 h91, k_word (w := w) (p := 2) (i := 5) hw (by decide) (by decide) σ9⟩, ⟨?_, ?_, ?_⟩, ⟨m1, m2, m3, m4, m5, m6⟩, n1, n2, f14, n4, hout σ14 a9, k_plain apl, n7⟩
  · rw [show lchr (114 : Int32) = 114 by decide, li3, l14]
  · rw [show lchr (99 : Int32) = 99 by decide, li2, l13]
  · rw [show lchr (116 : Int32) = 116 by decide, li1, l12]
    rfl
