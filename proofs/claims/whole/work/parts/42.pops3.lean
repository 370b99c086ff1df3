/-! ===== the calls: test, read, arm, give, line, code ===== -/
theorem q_test : op_test Rel := by
  intro j σ μ x1 hj hR
  rcases ix3 x1 with ⟨hT, hM⟩ | ⟨c, hc, rfl, hT, hM⟩
  · refine ⟨.inr 1, σ, 0, st2 μ 0 0 1, ?_, ?_, ⟨1, rfl, rfl, by decide⟩, rel_thr hR 1⟩
    · simp only [sX8_test, sX8_test_0, hT, Option.bind_some, o_x_r]
    · simp only [sX9_test, sX9_test_0, sX9_test_5, sX9_test_8, hM, isOut0, e10, Option.bind_some, if_false]
  rcases onR hR.1 hR.2.1 (show c < 4 by omega) with ⟨t6, m10⟩ | ⟨t6, m10⟩
  · have m10' : ¬ (st2 μ 0 0 0) 10 c = 0 := m10
    have hv4 : vin (nI c) 4 = true := vin_nI (by omega) (by decide)
    have hcc : (nI c).toNatClampNeg = c := nI_clamp (by omega)
    have hrel : ∀ (x : Int32) (τ : TS), (x = 0 ∨ x = 1) → (μ 17 c ≠ 0 → x = 0) → (∀ k i, ¬ (k = 15 + 6 * c ∧ i = 7) → τ k i = σ k i) → τ (15 + 6 * c) 7 = x → Rel (j + 1) τ (st2 (st2 (st2 μ 0 0 0) 0 0 0) 11 c x) := fun x τ hx h17 hτ hτ7 => by
      obtain ⟨h1, h2, ⟨m1, m2, m3, m4, m5, m6, m7, m8⟩, h4, h5, h6⟩ := rel_thr2 hR 0 0
      have hst : τ = st2 σ (15 + 6 * c) 7 x := by
        funext k i
        by_cases hki : k = 15 + 6 * c ∧ i = 7
        · obtain ⟨rfl, rfl⟩ := hki
          rw [st2_eq, hτ7]
        · rw [st2_off _ _ hki, hτ k i hki]
      subst hst
      refine ⟨rE_M (rE_T h1 (onT_7 c (by omega)) x) (onM_11 c (by omega)) x, iB_up (k := 11) h2 ?_, ⟨m1, m2, m3, m4, m5, m6, m7, fun d hd g17 => ?_⟩, ⟨fun s hs => ?_, ?_, fun d hd h10 => ?_, fun p hp i hi h32 w' hw' => ?_⟩, fun a b => ?_, h6⟩
      · show (0 : Int) ≤ _ ∧ _ ≤ (1 : Int)
        rcases hx with rfl | rfl <;> decide
      · by_cases hdc : d = c
        · subst hdc
          rw [st2_eq]
          exact h17 g17
        · rw [st2_nj _ _ hdc]
          exact m8 d hd g17
      · rw [st2_off _ _ (by omega)]
        exact h4.1 s hs
      · rw [st2_off σ x (by omega)]
        exact h4.2.1
      · by_cases hdc : d = c
        · subst hdc
          rw [st2_eq, st2_eq]
        · rw [st2_off _ _ (by omega), st2_nj _ _ hdc]
          exact h4.2.2.1 d hd h10
      · rw [st2_off _ _ (by omega)]
        exact h4.2.2.2 p hp i hi h32 w' hw'
      · rw [st2_off _ _ (by omega)] at a b
        exact h5 a b
    rcases stuckR hR.1 hR.2.1 (show c < 4 by omega) with ⟨g0, g1⟩ | ⟨g0, g2, g1⟩
    · have g0' : (st2 (st2 μ 0 0 0) 0 0 0) 17 c = 0 := g0
      refine ⟨.inl 1, st2 σ (15 + 6 * c) 7 1, 1, st2 (st2 (st2 μ 0 0 0) 0 0 0) 11 c 1, ?_, ?_, ⟨0, rfl, rfl, fun _ => rfl⟩, hrel 1 _ (Or.inr rfl) (fun h => absurd g0 h) (fun k i hki => st2_off _ _ hki) (st2_eq _ _ _ _)⟩
      · simp only [sX8_test, sX8_test_0, sX8_test_5, sX8_test_24, sX8_test_27, sX8_test_31, hT, Option.bind_some, o_x_l, vin_nI hc (by decide), hcc, if_true, t6, rs1, g1, eq_self]
      · simp only [sX9_test, sX9_test_0, sX9_test_5, sX9_test_8, sX9_test_28, sX9_test_59, hM, isOut1, eq_self, Option.bind_some, hv4, hcc, if_true, if_neg m10', st2_eq, l00, if_pos g0', nar1, zok1]
    · have g0' : ¬ (st2 (st2 μ 0 0 0) 0 0 0) 17 c = 0 := g0
      have h7 : σ (15 + 6 * c) 7 = 0 := (hR.2.2.2.1.2.2.1 c hc m10).trans (hR.2.2.1.2.2.2.2.2.2.2 c hc g0)
      refine ⟨.inl 0, σ, 0, st2 (st2 (st2 μ 0 0 0) 0 0 0) 11 c 0, ?_, ?_, ⟨0, rfl, rfl, fun _ => rfl⟩, hrel 0 _ (Or.inl rfl) (fun _ => rfl) (fun k i hki => rfl) h7⟩
      · simp only [sX8_test, sX8_test_0, sX8_test_5, sX8_test_24, sX8_test_27, sX8_test_31, hT, Option.bind_some, o_x_l, vin_nI hc (by decide), hcc, if_true, t6, rs1, g1, eq_self, e10, if_false]
      · simp only [sX9_test, sX9_test_0, sX9_test_5, sX9_test_8, sX9_test_28, sX9_test_59, hM, isOut1, eq_self, Option.bind_some, hv4, hcc, if_true, if_neg m10', st2_eq, l00, if_neg g0', nar0, zok0]
  · have m10' : (st2 μ 0 0 0) 10 c = 0 := m10
    refine ⟨.inr 4, σ, 0, st2 (st2 μ 0 0 0) 0 0 2, ?_, ?_, ⟨2, rfl, rfl, by decide⟩, rel_thr2 hR 0 2⟩
    · simp only [sX8_test, sX8_test_0, sX8_test_5, sX8_test_24, hT, Option.bind_some, o_x_l, o_x_r, vin_nI hc (by decide), nI_clamp (show c < 2 ^ 31 by omega), if_true, t6, e10, if_false, rs0]
    · simp only [sX9_test, sX9_test_0, sX9_test_5, sX9_test_8, sX9_test_28, hM, isOut1, eq_self, Option.bind_some, vin_nI (show c < 4 by omega) (by decide), nI_clamp (show c < 2 ^ 31 by omega), if_true, if_pos m10', st2_eq, l20, if_false]
theorem onT_66 : ∀ s, s < 4 → onT (66 + s) 0 = false := by decide +kernel
theorem onM_25 : ∀ i, i < 12 → onM 25 i = false := by decide +kernel
theorem q_read : op_read Rel := by
  intro j σ μ x1 x2 x3 x4 hj hR
  rcases ix4 x1 with ⟨hT, hM⟩ | ⟨s, hs, rfl, hT, hM⟩
  · refine ⟨.inr 1, σ, 0, st2 μ 0 0 1, ?_, ?_, ⟨1, rfl, rfl, by decide⟩, rel_thr hR 1⟩
    · simp only [sX8_read, sX8_read_0, hT, Option.bind_some, o_x_r]
    · simp only [sX9_read, sX9_read_0, sX9_read_5, sX9_read_8, hM, isOut0, e10, Option.bind_some, if_false]
  rcases isNum x2 with ⟨hT2, hM2⟩ | ⟨l2, u2, hT2, hM2⟩
  · refine ⟨.inr 2, σ, 0, st2 (st2 μ 0 0 0) 0 0 2, ?_, ?_, ⟨2, rfl, rfl, by decide⟩, rel_thr2 hR 0 2⟩
    · simp only [sX8_read, sX8_read_0, sX8_read_5, sX8_read_9, sX8_read_31, sX8_read_32, hT, hT2, rf0, eq_self, if_true, Option.bind_some, o_x_l, o_x_r]
    · simp only [sX9_read, sX9_read_0, sX9_read_5, sX9_read_8, sX9_read_18, sX9_read_40, sX9_read_41, hM, hM2, isOut1, eq_self, if_true, st2_eq, l20, Option.bind_some, if_false]
  rcases isNum x3 with ⟨hT3, hM3⟩ | ⟨l3, u3, hT3, hM3⟩
  · refine ⟨.inr 2, σ, 0, st2 (st2 μ 0 0 0) 0 0 2, ?_, ?_, ⟨2, rfl, rfl, by decide⟩, rel_thr2 hR 0 2⟩
    · simp only [sX8_read, sX8_read_0, sX8_read_5, sX8_read_9, sX8_read_16, sX8_read_31, sX8_read_32, hT, hT2, hT3, rf0, eq_self, e10, if_true, if_false, Option.bind_some, o_x_l, o_x_r]
    · simp only [sX9_read, sX9_read_0, sX9_read_5, sX9_read_8, sX9_read_18, sX9_read_25, sX9_read_40, sX9_read_41, hM, hM2, hM3, isOut1, eq_self, e10, if_true, st2_eq, l20, Option.bind_some, if_false]
  rcases isNum x4 with ⟨hT4, hM4⟩ | ⟨l4, u4, hT4, hM4⟩
  · refine ⟨.inr 2, σ, 0, st2 (st2 μ 0 0 0) 0 0 2, ?_, ?_, ⟨2, rfl, rfl, by decide⟩, rel_thr2 hR 0 2⟩
    · simp only [sX8_read, sX8_read_0, sX8_read_5, sX8_read_9, sX8_read_16, sX8_read_24, sX8_read_31, sX8_read_32, hT, hT2, hT3, hT4, rf0, eq_self, e10, if_true, if_false, Option.bind_some, o_x_l, o_x_r]
    · simp only [sX9_read, sX9_read_0, sX9_read_5, sX9_read_8, sX9_read_18, sX9_read_25, sX9_read_33, sX9_read_40, sX9_read_41, hM, hM2, hM3, hM4, isOut1, eq_self, e10, if_true, st2_eq, l20, Option.bind_some, if_false]
  have hrel : Rel (j + 1) (st2 σ (66 + s) 0 (md x2 x3 x4)) (st2 (st2 (st2 (st2 (st2 μ 0 0 0) 0 0 0) 25 (3 * s) x2) 25 (3 * s + 1) x3) 25 (3 * s + 2) x4) := by
    obtain ⟨h1, h2, h3, h4, h5, h6⟩ := rel_thr2 hR 0 0
    refine ⟨rE_M (rE_M (rE_M (rE_T h1 (onT_66 s hs) _) (onM_25 _ (by omega)) _) (onM_25 _ (by omega)) _) (onM_25 _ (by omega)) _, iB_up (k := 25) (iB_up (k := 25) (iB_up (k := 25) h2 ⟨l2, u2⟩) ⟨l3, u3⟩) ⟨l4, u4⟩, h3, ⟨fun s' hs' => ?_, ?_, fun d hd h10 => ?_, fun p hp i hi h32 w' hw' => ?_⟩, fun a b => ?_, h6⟩
    · by_cases hss : s' = s
      · subst hss
        rw [st2_eq, md_I, st2_nj _ _ (by omega), st2_nj _ _ (by omega), st2_eq, st2_nj _ _ (by omega), st2_eq, st2_eq]
      · rw [st2_ne _ _ _ (by omega), st2_nj _ _ (by omega), st2_nj _ _ (by omega), st2_nj _ _ (by omega), st2_nj _ _ (by omega), st2_nj _ _ (by omega), st2_nj _ _ (by omega), st2_nj _ _ (by omega), st2_nj _ _ (by omega), st2_nj _ _ (by omega)]
        exact h4.1 s' hs'
    · rw [st2_ne σ 0 (md x2 x3 x4) (by omega)]
      exact h4.2.1
    · rw [st2_ne _ _ _ (by omega)]
      exact h4.2.2.1 d hd h10
    · rw [st2_ne _ _ _ (by omega)]
      exact h4.2.2.2 p hp i hi h32 w' hw'
    · rw [st2_ne _ _ _ (by omega)] at a b
      exact h5 a b
  refine ⟨.inl (md x2 x3 x4), _, md x2 x3 x4, _, ?_, ?_, ⟨0, rfl, rfl, fun _ => rfl⟩, hrel⟩
  · simp only [sX8_read, sX8_read_0, sX8_read_5, sX8_read_9, sX8_read_16, sX8_read_24, sX8_read_32, sX8_read_35, sX8_read_48, hT, hT2, hT3, hT4, rf1, eq_self, e10, if_true, if_false, Option.bind_some, o_x_l, vin_nI hs (by decide), nI_clamp (show s < 2 ^ 31 by omega), t_middle, st2_eq]
  · simp only [sX9_read, sX9_read_0, sX9_read_5, sX9_read_8, sX9_read_18, sX9_read_25, sX9_read_33, sX9_read_41, sX9_read_92, hM, hM2, hM3, hM4, isOut1, eq_self, e10, if_true, st2_eq, l00, Option.bind_some, if_false, nI_m3, nI_1, nI_p2, vin_nI (show 3 * s < 12 by omega) (by decide), vin_nI (show 3 * s + 1 < 12 by omega) (by decide), vin_nI (show 3 * s + 2 < 12 by omega) (by decide), nI_clamp (show 3 * s < 2 ^ 31 by omega), nI_clamp (show 3 * s + 1 < 2 ^ 31 by omega), nI_clamp (show 3 * s + 2 < 2 ^ 31 by omega), m_middle]
/-! commands -/
theorem cmdR (x : Int32) : ((∀ σ, sX8_isCommand x σ = some (0, σ)) ∧ (∀ μ, sX9_isCommand x μ = some (0, μ))) ∨ ((x = 97 ∨ x = 109) ∧ (∀ σ, sX8_isCommand x σ = some (1, σ)) ∧ (∀ μ, sX9_isCommand x μ = some (1, μ))) := by
  by_cases h1 : x = 109
  · refine Or.inr ⟨Or.inr h1, fun σ => ?_, fun μ => ?_⟩
    · unfold sX8_isCommand sX8_isCommand_0
      rw [if_pos h1]
      rfl
    · unfold sX9_isCommand sX9_isCommand_0
      rw [if_pos h1]
      rfl
  · by_cases h2 : x = 97
    · refine Or.inr ⟨Or.inl h2, fun σ => ?_, fun μ => ?_⟩
      · unfold sX8_isCommand sX8_isCommand_0
        rw [if_neg h1, if_pos h2]
        rfl
      · unfold sX9_isCommand sX9_isCommand_0
        rw [if_neg h1, if_pos h2]
        rfl
    · refine Or.inl ⟨fun σ => ?_, fun μ => ?_⟩
      · unfold sX8_isCommand sX8_isCommand_0
        rw [if_neg h1, if_neg h2]
        rfl
      · unfold sX9_isCommand sX9_isCommand_0
        rw [if_neg h1, if_neg h2]
        rfl
theorem onT_012 : onT 0 12 = false := by decide +kernel
theorem onM_038 : onM 0 38 = false := by decide +kernel
theorem q_arm : op_arm Rel := by
  intro j σ μ x1 hj hR
  generalize lchr x1 = x
  rcases cmdR x with ⟨hT, hM⟩ | ⟨hx, hT, hM⟩
  · refine ⟨.inr 2, σ, 0, st2 μ 0 0 1, ?_, ?_, ⟨1, rfl, rfl, by decide⟩, rel_thr hR 1⟩
    · simp only [sX8_arm, sX8_arm_0, sX8_arm_4, hT, rf0, Option.bind_some, o_x_r]
    · simp only [sX9_arm, sX9_arm_0, sX9_arm_5, sX9_arm_8, hM, isOut0, e10, Option.bind_some, if_false]
  have hck : cok x = true := by
    rcases hx with rfl | rfl <;> decide
  have hg : σ 0 10 = μ 0 1 := rE_get hR.1 tm_time
  have hrel : Rel (j + 1) (st2 (st2 σ 0 12 x) 0 13 (σ 0 10 + 3)) (st2 (st2 (st2 μ 0 0 0) 0 38 x) 0 39 (μ 0 1 + 3)) := by
    obtain ⟨h1, h2, h3, h4, h5, h6⟩ := rel_thr hR 0
    refine ⟨rE_up (rE_M (rE_T h1 onT_012 x) onM_038 x) tm_until (by rw [hg]; rfl), iB_up (k := 0) (iB_up (k := 0) h2 (i32_any _)) (i32_any _), h3, ⟨fun s hs => ?_, Or.inr ⟨hx, rfl⟩, fun d hd h10 => ?_, fun p hp i hi h32 w' hw' => ?_⟩, h5, h6⟩
    · rw [st2_ne _ _ _ (by omega), st2_ne _ _ _ (by omega)]
      exact h4.1 s hs
    · rw [st2_ne _ _ _ (by omega), st2_ne _ _ _ (by omega)]
      exact h4.2.2.1 d hd h10
    · rw [st2_ne _ _ _ (by omega), st2_ne _ _ _ (by omega)]
      exact h4.2.2.2 p hp i hi h32 w' hw'
  refine ⟨.inl (σ 0 10 + 3), _, μ 0 1 + 3, _, ?_, ?_, ⟨0, rfl, rfl, fun _ => by rw [hg]⟩, hrel⟩
  · simp only [sX8_arm, sX8_arm_0, sX8_arm_4, sX8_arm_7, hT, rf1, hck, if_true, Option.bind_some, o_x_l, st2_eq]
    rfl
  · simp only [sX9_arm, sX9_arm_0, sX9_arm_5, sX9_arm_8, hM, isOut1, eq_self, hck, if_true, Option.bind_some, st2_eq]
    rfl
