/-! ===== calls that set a number ===== -/
theorem q_clear : op_clear Rel := by
  intro j σ μ x1 hj hR
  rcases ix3 x1 with ⟨hT, hM⟩ | ⟨i, hi, rfl, hT, hM⟩
  · refine ⟨.inr 1, σ, 0, st2 μ 0 0 1, ?_, ?_, ⟨1, rfl, rfl, by decide⟩, rel_thr hR 1⟩
    · simp only [sX8_clear, sX8_clear_0, hT, Option.bind_some, o_x_r]
    · simp only [sX9_clear, sX9_clear_0, sX9_clear_5, sX9_clear_8, hM, isOut0, e10, Option.bind_some, if_false]
  · have hg : σ (39 + 4 * i) 3 = μ 4 i := rE_get hR.1 (tm_size i hi)
    refine ⟨.inl (μ 4 i), st2 σ (39 + 4 * i) 3 0, μ 4 i, st2 (st2 μ 0 0 0) 4 i 0, ?_, ?_, ⟨0, rfl, rfl, fun _ => rfl⟩, rel_up (rel_thr hR 0) (tm_size i hi) rfl ⟨by decide, by decide⟩ (by unfold tieT; omega) rfl⟩
    · simp only [sX8_clear, sX8_clear_0, sX8_clear_5, hT, Option.bind_some, o_x_l, vin_nI hi (by decide), nI_clamp (show i < 2 ^ 31 by omega), if_true, hg]
    · simp only [sX9_clear, sX9_clear_0, sX9_clear_5, sX9_clear_8, hM, isOut1, eq_self, Option.bind_some, vin_nI hi (by decide), nI_clamp (show i < 2 ^ 31 by omega), if_true]
      rfl
theorem q_drift : op_drift Rel := by
  intro j σ μ x1 x2 hj hR
  rcases ix3 x1 with ⟨hT, hM⟩ | ⟨i, hi, rfl, hT, hM⟩
  · refine ⟨.inr 1, σ, 0, st2 μ 0 0 1, ?_, ?_, ⟨1, rfl, rfl, by decide⟩, rel_thr hR 1⟩
    · simp only [sX8_drift, sX8_drift_0, hT, Option.bind_some, o_x_r]
    · simp only [sX9_drift, sX9_drift_0, sX9_drift_5, sX9_drift_8, hM, isOut0, e10, Option.bind_some, if_false]
  rcases iw x2 (-9) 9 (A := -9) (B := 9) (by decide) (by decide) with ⟨hT2, hM2⟩ | ⟨h0, h1, hT2, hM2⟩
  · refine ⟨.inr 2, σ, 0, st2 (st2 μ 0 0 0) 0 0 2, ?_, ?_, ⟨2, rfl, rfl, by decide⟩, rel_thr2 hR 0 2⟩
    · simp only [sX8_drift, sX8_drift_0, sX8_drift_5, sX8_drift_13, hT, hT2, rf0, Option.bind_some, o_x_l, o_x_r]
    · simp only [sX9_drift, sX9_drift_0, sX9_drift_5, sX9_drift_8, sX9_drift_22, sX9_drift_30, hM, hM2, isOut1, eq_self, st2_eq, l20, Option.bind_some, if_true, if_false]
  · have hg : σ (15 + 6 * i) 3 = μ 15 i := rE_get hR.1 (tm_drift i hi)
    refine ⟨.inl (μ 15 i), st2 σ (15 + 6 * i) 3 x2, μ 15 i, st2 (st2 (st2 μ 0 0 0) 0 0 0) 15 i x2, ?_, ?_, ⟨0, rfl, rfl, fun _ => rfl⟩, rel_up (rel_thr2 hR 0 0) (tm_drift i hi) rfl ⟨h0, h1⟩ (by unfold tieT; omega) rfl⟩
    · simp only [sX8_drift, sX8_drift_0, sX8_drift_5, sX8_drift_13, sX8_drift_16, hT, hT2, rf1, Option.bind_some, o_x_l, vin_nI hi (by decide), nI_clamp (show i < 2 ^ 31 by omega), if_true, hg]
    · simp only [sX9_drift, sX9_drift_0, sX9_drift_5, sX9_drift_8, sX9_drift_22, sX9_drift_30, hM, hM2, isOut1, e10, eq_self, st2_eq, l00, Option.bind_some, vin_nI (show i < 4 by omega) (by decide), nI_clamp (show i < 2 ^ 31 by omega), if_true, if_false]
      rfl
theorem q_limit : op_limit Rel := by
  intro j σ μ x1 x2 hj hR
  rcases ix4 x1 with ⟨hT, hM⟩ | ⟨i, hi, rfl, hT, hM⟩
  · refine ⟨.inr 1, σ, 0, st2 μ 0 0 1, ?_, ?_, ⟨1, rfl, rfl, by decide⟩, rel_thr hR 1⟩
    · simp only [sX8_limit, sX8_limit_0, hT, Option.bind_some, o_x_r]
    · simp only [sX9_limit, sX9_limit_0, sX9_limit_5, sX9_limit_8, hM, isOut0, e10, Option.bind_some, if_false]
  rcases iw x2 0 32767 (A := 0) (B := 32767) (by decide) (by decide) with ⟨hT2, hM2⟩ | ⟨h0, h1, hT2, hM2⟩
  · refine ⟨.inr 2, σ, 0, st2 (st2 μ 0 0 0) 0 0 2, ?_, ?_, ⟨2, rfl, rfl, by decide⟩, rel_thr2 hR 0 2⟩
    · simp only [sX8_limit, sX8_limit_0, sX8_limit_5, sX8_limit_13, hT, hT2, rf0, Option.bind_some, o_x_l, o_x_r]
    · simp only [sX9_limit, sX9_limit_0, sX9_limit_5, sX9_limit_8, sX9_limit_22, sX9_limit_30, hM, hM2, isOut1, eq_self, st2_eq, l20, Option.bind_some, if_true, if_false]
  · have hg : σ (66 + i) 1 = 32767 - μ 26 i := (rE_get hR.1 (tm_lim i hi)).trans (tr_2 _)
    have hs : (32767 - x2).toInt = 32767 - x2.toInt := fb_subI (by rw [show (32767 : Int32).toInt = 32767 by decide]; omega) (by rw [show (32767 : Int32).toInt = 32767 by decide]; omega)
    have hb : (bd 26).1 ≤ (32767 - x2).toInt ∧ (32767 - x2).toInt ≤ (bd 26).2 := by
      rw [hs]
      show 0 ≤ _ ∧ _ ≤ (32767 : Int)
      omega
    have hv : x2 = tr 2 (32767 - x2) := by
      rw [tr_2]
      apply i32_eq
      rw [fb_subI (by rw [hs, show (32767 : Int32).toInt = 32767 by decide]; omega) (by rw [hs, show (32767 : Int32).toInt = 32767 by decide]; omega), hs, show (32767 : Int32).toInt = 32767 by decide]
      omega
    refine ⟨.inl (32767 - μ 26 i), st2 σ (66 + i) 1 x2, 32767 - μ 26 i, st2 (st2 (st2 μ 0 0 0) 0 0 0) 26 i (32767 - x2), ?_, ?_, ⟨0, rfl, rfl, fun _ => rfl⟩, rel_up (rel_thr2 hR 0 0) (tm_lim i hi) hv hb (by unfold tieT; omega) rfl⟩
    · simp only [sX8_limit, sX8_limit_0, sX8_limit_5, sX8_limit_13, sX8_limit_16, hT, hT2, rf1, Option.bind_some, o_x_l, vin_nI hi (by decide), nI_clamp (show i < 2 ^ 31 by omega), if_true, hg]
    · simp only [sX9_limit, sX9_limit_0, sX9_limit_5, sX9_limit_8, sX9_limit_22, sX9_limit_30, hM, hM2, isOut1, e10, eq_self, st2_eq, l00, Option.bind_some, vin_nI hi (by decide), nI_clamp (show i < 2 ^ 31 by omega), if_true, if_false]
      rfl
theorem q_fault : op_fault Rel := by
  intro j σ μ x1 x2 x3 hj hR
  rcases ix4 x1 with ⟨hT, hM⟩ | ⟨i, hi, rfl, hT, hM⟩
  · refine ⟨.inr 1, σ, 0, st2 μ 0 0 1, ?_, ?_, ⟨1, rfl, rfl, by decide⟩, rel_thr hR 1⟩
    · simp only [sX8_fault, sX8_fault_0, hT, Option.bind_some, o_x_r]
    · simp only [sX9_fault, sX9_fault_0, sX9_fault_5, sX9_fault_19, sX9_fault_20, sX9_fault_23, hM, isOut0, eq_self, e10, Option.bind_some, if_true, if_false]
  rcases ix3 x2 with ⟨hT2, hM2⟩ | ⟨k, hk, rfl, hT2, hM2⟩
  · refine ⟨.inr 1, σ, 0, st2 μ 0 0 1, ?_, ?_, ⟨1, rfl, rfl, by decide⟩, rel_thr hR 1⟩
    · simp only [sX8_fault, sX8_fault_0, sX8_fault_5, hT, hT2, Option.bind_some, o_x_l, o_x_r]
    · simp only [sX9_fault, sX9_fault_0, sX9_fault_5, sX9_fault_12, sX9_fault_19, sX9_fault_20, sX9_fault_23, hM, hM2, isOut0, eq_self, e10, Option.bind_some, if_true, if_false]
  rcases iw x3 (-999) 999 (A := -999) (B := 999) (by decide) (by decide) with ⟨hT3, hM3⟩ | ⟨h0, h1, hT3, hM3⟩
  · refine ⟨.inr 2, σ, 0, st2 (st2 μ 0 0 0) 0 0 2, ?_, ?_, ⟨2, rfl, rfl, by decide⟩, rel_thr2 hR 0 2⟩
    · simp only [sX8_fault, sX8_fault_0, sX8_fault_5, sX8_fault_10, sX8_fault_20, hT, hT2, hT3, rf0, Option.bind_some, o_x_l, o_x_r]
    · simp only [sX9_fault, sX9_fault_0, sX9_fault_5, sX9_fault_12, sX9_fault_20, sX9_fault_23, sX9_fault_39, sX9_fault_47, hM, hM2, hM3, isOut1, eq_self, e10, st2_eq, l20, Option.bind_some, if_true, if_false]
  · have hg : σ (71 + 2 * i) k = μ 33 (3 * i + k) := rE_get hR.1 (tm_fault i hi k hk)
    refine ⟨.inl (μ 33 (3 * i + k)), st2 σ (71 + 2 * i) k x3, μ 33 (3 * i + k), st2 (st2 (st2 μ 0 0 0) 0 0 0) 33 (3 * i + k) x3, ?_, ?_, ⟨0, rfl, rfl, fun _ => rfl⟩, rel_up (rel_thr2 hR 0 0) (tm_fault i hi k hk) rfl ⟨h0, h1⟩ (by unfold tieT; omega) rfl⟩
    · simp only [sX8_fault, sX8_fault_0, sX8_fault_5, sX8_fault_10, sX8_fault_20, sX8_fault_23, hT, hT2, hT3, rf1, Option.bind_some, o_x_l, vin_nI hi (by decide), nI_clamp (show i < 2 ^ 31 by omega), vin_nI hk (by decide), nI_clamp (show k < 2 ^ 31 by omega), if_true, hg]
    · simp only [sX9_fault, sX9_fault_0, sX9_fault_5, sX9_fault_12, sX9_fault_20, sX9_fault_23, sX9_fault_39, sX9_fault_47, hM, hM2, hM3, isOut1, eq_self, e10, st2_eq, l00, Option.bind_some, nI_m3, nI_add, vin_nI (show 3 * i + k < 12 by omega) (by decide), nI_clamp (show 3 * i + k < 2 ^ 31 by omega), if_true, if_false]
      rfl
theorem q_lie : op_lie Rel := by
  intro j σ μ x1 x2 x3 hj hR
  rcases ix3 x1 with ⟨hT, hM⟩ | ⟨i, hi, rfl, hT, hM⟩
  · refine ⟨.inr 1, σ, 0, st2 μ 0 0 1, ?_, ?_, ⟨1, rfl, rfl, by decide⟩, rel_thr hR 1⟩
    · simp only [sX8_lie, sX8_lie_0, hT, Option.bind_some, o_x_r]
    · simp only [sX9_lie, sX9_lie_0, sX9_lie_5, sX9_lie_19, sX9_lie_20, sX9_lie_23, hM, isOut0, eq_self, e10, Option.bind_some, if_true, if_false]
  rcases ix3 x2 with ⟨hT2, hM2⟩ | ⟨k, hk, rfl, hT2, hM2⟩
  · refine ⟨.inr 1, σ, 0, st2 μ 0 0 1, ?_, ?_, ⟨1, rfl, rfl, by decide⟩, rel_thr hR 1⟩
    · simp only [sX8_lie, sX8_lie_0, sX8_lie_5, hT, hT2, Option.bind_some, o_x_l, o_x_r]
    · simp only [sX9_lie, sX9_lie_0, sX9_lie_5, sX9_lie_12, sX9_lie_19, sX9_lie_20, sX9_lie_23, hM, hM2, isOut0, eq_self, e10, Option.bind_some, if_true, if_false]
  by_cases hik : nI i = nI k
  · refine ⟨.inr 2, σ, 0, st2 (st2 μ 0 0 0) 0 0 2, ?_, ?_, ⟨2, rfl, rfl, by decide⟩, rel_thr2 hR 0 2⟩
    · simp only [sX8_lie, sX8_lie_0, sX8_lie_5, sX8_lie_10, sX8_lie_32, sX8_lie_33, hT, hT2, if_pos hik, rf0, Option.bind_some, o_x_l, o_x_r]
    · simp only [sX9_lie, sX9_lie_0, sX9_lie_5, sX9_lie_12, sX9_lie_20, sX9_lie_23, sX9_lie_51, sX9_lie_52, hM, hM2, if_pos hik, isOut1, eq_self, e10, st2_eq, l20, Option.bind_some, if_true, if_false]
  rcases iw x3 (-999) 999 (A := -999) (B := 999) (by decide) (by decide) with ⟨hT3, hM3⟩ | ⟨h0, h1, hT3, hM3⟩
  · refine ⟨.inr 2, σ, 0, st2 (st2 μ 0 0 0) 0 0 2, ?_, ?_, ⟨2, rfl, rfl, by decide⟩, rel_thr2 hR 0 2⟩
    · simp only [sX8_lie, sX8_lie_0, sX8_lie_5, sX8_lie_10, sX8_lie_25, sX8_lie_32, sX8_lie_33, hT, hT2, hT3, if_neg hik, rf0, eq_self, Option.bind_some, o_x_l, o_x_r, if_true]
    · simp only [sX9_lie, sX9_lie_0, sX9_lie_5, sX9_lie_12, sX9_lie_20, sX9_lie_23, sX9_lie_44, sX9_lie_51, sX9_lie_52, hM, hM2, hM3, if_neg hik, isOut1, eq_self, e10, st2_eq, l20, Option.bind_some, if_true, if_false]
  · have hg : σ (19 + 6 * i) k = μ 29 (3 * i + k) := rE_get hR.1 (tm_lies i hi k hk)
    refine ⟨.inl (μ 29 (3 * i + k)), st2 σ (19 + 6 * i) k x3, μ 29 (3 * i + k), st2 (st2 (st2 μ 0 0 0) 0 0 0) 29 (3 * i + k) x3, ?_, ?_, ⟨0, rfl, rfl, fun _ => rfl⟩, rel_up (rel_thr2 hR 0 0) (tm_lies i hi k hk) rfl ⟨h0, h1⟩ (by unfold tieT; omega) rfl⟩
    · simp only [sX8_lie, sX8_lie_0, sX8_lie_5, sX8_lie_10, sX8_lie_25, sX8_lie_33, sX8_lie_36, hT, hT2, hT3, if_neg hik, rf1, e10, Option.bind_some, o_x_l, vin_nI hi (by decide), nI_clamp (show i < 2 ^ 31 by omega), vin_nI hk (by decide), nI_clamp (show k < 2 ^ 31 by omega), if_true, if_false, hg]
    · simp only [sX9_lie, sX9_lie_0, sX9_lie_5, sX9_lie_12, sX9_lie_20, sX9_lie_23, sX9_lie_44, sX9_lie_52, hM, hM2, hM3, if_neg hik, isOut1, eq_self, e10, st2_eq, l00, Option.bind_some, nI_m3, nI_add, vin_nI (show 3 * i + k < 9 by omega) (by decide), nI_clamp (show 3 * i + k < 2 ^ 31 by omega), if_true, if_false]
      rfl
theorem pm1 (x : Int32) : x + 1 - 1 = x := Int32.add_sub_cancel x 1
theorem q_slot : op_slot Rel := by
  intro j σ μ x1 x2 x3 hj hR
  rcases ix2 x1 with ⟨hT, hM⟩ | ⟨i, hi, rfl, hT, hM⟩
  · refine ⟨.inr 1, σ, 0, st2 μ 0 0 1, ?_, ?_, ⟨1, rfl, rfl, by decide⟩, rel_thr hR 1⟩
    · simp only [sX8_slot, sX8_slot_0, hT, Option.bind_some, o_x_r]
    · simp only [sX9_slot, sX9_slot_0, sX9_slot_7, sX9_slot_30, sX9_slot_31, sX9_slot_34, hM, isOut0, eq_self, e10, Option.bind_some, if_true, if_false]
  rcases ix3 x2 with ⟨hT2, hM2⟩ | ⟨k, hk, rfl, hT2, hM2⟩
  · refine ⟨.inr 1, σ, 0, st2 μ 0 0 1, ?_, ?_, ⟨1, rfl, rfl, by decide⟩, rel_thr hR 1⟩
    · simp only [sX8_slot, sX8_slot_0, sX8_slot_5, hT, hT2, Option.bind_some, o_x_l, o_x_r]
    · simp only [sX9_slot, sX9_slot_0, sX9_slot_7, sX9_slot_14, sX9_slot_30, sX9_slot_31, sX9_slot_34, hM, hM2, isOut0, eq_self, e10, Option.bind_some, if_true, if_false]
  have hx3 : ((∀ σ, sX8_slot_10 (nI i) (nI k) x3 σ = some (.inr 1, σ)) ∧ (∀ μ, sX9_in x3 (-1) 2 μ = some (0, μ))) ∨ (-1 ≤ x3.toInt ∧ x3.toInt ≤ 2 ∧ (∀ σ, sX8_slot_10 (nI i) (nI k) x3 σ = sX8_slot_20 (nI i) (nI k) x3 σ) ∧ (∀ μ, sX9_in x3 (-1) 2 μ = some (1, μ))) := by
    by_cases hn : x3 = -1
    · subst hn
      refine Or.inr ⟨by decide, by decide, fun σ => ?_, in_ok (by decide) (by decide)⟩
      unfold sX8_slot_10
      rw [if_pos rfl]
    · rcases iw x3 (-1) 2 (A := -1) (B := 2) (by decide) (by decide) with ⟨hT3, hM3⟩ | ⟨h0, h1, hT3, hM3⟩
      · refine Or.inl ⟨fun σ => ?_, hM3⟩
        unfold sX8_slot_10
        rw [if_neg hn]
        rcases ix3 x3 with ⟨g, _⟩ | ⟨l, hl, rfl, _, _⟩
        · rw [g, Option.bind_some, o_x_r]
        · exfalso
          have h1 := hM3 (fun _ _ => 0)
          rw [in_ok (by rw [lt_iff, nI_toInt (by omega), show (-1 : Int32).toInt = -1 by decide]; omega) (by rw [lt_iff, nI_toInt (by omega), show (2 : Int32).toInt = 2 by decide]; omega)] at h1
          have h2 := congrArg Prod.fst (Option.some.inj h1)
          exact absurd h2 (by decide)
      · refine Or.inr ⟨h0, h1, fun σ => ?_, hM3⟩
        have h2 : x3.toInt ≠ -1 := fun h => hn (i32_eq (h.trans (by decide)))
        obtain ⟨l, hl, rfl⟩ := i32_nI (n := 2) (x := x3) (by omega) h1
        unfold sX8_slot_10
        rw [if_neg hn]
        rcases ix3 (nI l) with ⟨g, _⟩ | ⟨l', hl', he, g, _⟩
        · have g2 := g σ
          unfold sX8_requireIndex sX8_requireIndex_0 at g2
          rw [if_neg (nI_pos (by omega)), if_pos (show nI l < (3 : Int32) from nI_lt (b := 3) (by omega) (by decide))] at g2
          cases g2
        · rw [he, g, Option.bind_some, o_x_l]
  rcases hx3 with ⟨hT3, hM3⟩ | ⟨h0, h1, hT3, hM3⟩
  · refine ⟨.inr 1, σ, 0, st2 μ 0 0 1, ?_, ?_, ⟨1, rfl, rfl, by decide⟩, rel_thr hR 1⟩
    · simp only [sX8_slot, sX8_slot_0, sX8_slot_5, hT, hT2, hT3, Option.bind_some, o_x_l]
    · simp only [sX9_slot, sX9_slot_0, sX9_slot_7, sX9_slot_14, sX9_slot_23, sX9_slot_30, sX9_slot_31, sX9_slot_34, hM, hM2, hM3, isOut0, eq_self, e10, Option.bind_some, if_true, if_false]
  · have hg : σ (3 + i) k = μ 5 (3 * i + k) - 1 := rE_get hR.1 (tm_slots i hi k hk)
    have hs : (x3 + 1).toInt = x3.toInt + 1 := fb_addI (by rw [show (1 : Int32).toInt = 1 by decide]; omega) (by rw [show (1 : Int32).toInt = 1 by decide]; omega)
    have hb : (bd 5).1 ≤ (x3 + 1).toInt ∧ (x3 + 1).toInt ≤ (bd 5).2 := by
      rw [hs]
      show 0 ≤ _ ∧ _ ≤ (3 : Int)
      omega
    refine ⟨.inl (μ 5 (3 * i + k) - 1), st2 σ (3 + i) k x3, μ 5 (3 * i + k) - 1, st2 (st2 μ 0 0 0) 5 (3 * i + k) (x3 + 1), ?_, ?_, ⟨0, rfl, rfl, fun _ => rfl⟩, rel_up (rel_thr hR 0) (tm_slots i hi k hk) (pm1 x3).symm hb (by unfold tieT; omega) rfl⟩
    · simp only [sX8_slot, sX8_slot_0, sX8_slot_5, sX8_slot_20, hT, hT2, hT3, Option.bind_some, o_x_l, vin_nI hi (by decide), nI_clamp (show i < 2 ^ 31 by omega), vin_nI hk (by decide), nI_clamp (show k < 2 ^ 31 by omega), if_true, hg]
    · simp only [sX9_slot, sX9_slot_0, sX9_slot_7, sX9_slot_14, sX9_slot_23, sX9_slot_31, sX9_slot_34, hM, hM2, hM3, isOut1, eq_self, e10, Option.bind_some, nI_m3, nI_add, vin_nI (show 3 * i + k < 6 by omega) (by decide), nI_clamp (show 3 * i + k < 2 ^ 31 by omega), if_true, if_false]
      rfl
