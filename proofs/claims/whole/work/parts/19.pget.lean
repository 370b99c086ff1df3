/-! ===== calls that only tell ===== -/
theorem q_output : op_output Rel := by
  intro j σ μ x1 hj hR
  rcases ix4 x1 with ⟨hT, hM⟩ | ⟨i, hi, rfl, hT, hM⟩
  · refine ⟨.inr 1, σ, 0, st2 μ 0 0 1, ?_, ?_, ⟨1, rfl, rfl, by decide⟩, rel_thr hR 1⟩
    · simp only [sX8_output, sX8_output_0, hT, Option.bind_some, o_x_r]
    · simp only [sX9_output, sX9_output_0, sX9_output_5, sX9_output_8, sX9_output_21, hM, isOut0, e10, Option.bind_some, if_false]
  · have hg : σ (9 + 0) i = μ 22 i := rE_get hR.1 (tm_out i hi)
    refine ⟨.inl (σ (9 + 0) i), σ, μ 22 i, st2 μ 0 0 0, ?_, ?_, ⟨0, rfl, rfl, fun _ => by rw [hg]⟩, rel_thr hR 0⟩
    · simp only [sX8_output, sX8_output_0, sX8_output_5, hT, Option.bind_some, o_x_l, vin_nI hi (by decide), nI_clamp (show i < 2 ^ 31 by omega), if_true]
    · simp only [sX9_output, sX9_output_0, sX9_output_5, sX9_output_8, sX9_output_21, hM, isOut1, eq_self, Option.bind_some, vin_nI (show i < 4 by omega) (by decide), nI_clamp (show i < 2 ^ 31 by omega), if_true]
      rfl
theorem q_plain : op_plain Rel := by
  intro j σ μ x1 hj hR
  rcases ix4 x1 with ⟨hT, hM⟩ | ⟨i, hi, rfl, hT, hM⟩
  · refine ⟨.inr 1, σ, 0, st2 μ 0 0 1, ?_, ?_, ⟨1, rfl, rfl, by decide⟩, rel_thr hR 1⟩
    · simp only [sX8_plain, sX8_plain_0, hT, Option.bind_some, o_x_r]
    · simp only [sX9_plain, sX9_plain_0, sX9_plain_5, sX9_plain_8, sX9_plain_21, hM, isOut0, e10, Option.bind_some, if_false]
  · have hg : σ (9 + 1) i = μ 23 i := rE_get hR.1 (tm_plain i hi)
    refine ⟨.inl (σ (9 + 1) i), σ, μ 23 i, st2 μ 0 0 0, ?_, ?_, ⟨0, rfl, rfl, fun _ => by rw [hg]⟩, rel_thr hR 0⟩
    · simp only [sX8_plain, sX8_plain_0, sX8_plain_5, hT, Option.bind_some, o_x_l, vin_nI hi (by decide), nI_clamp (show i < 2 ^ 31 by omega), if_true]
    · simp only [sX9_plain, sX9_plain_0, sX9_plain_5, sX9_plain_8, sX9_plain_21, hM, isOut1, eq_self, Option.bind_some, vin_nI (show i < 4 by omega) (by decide), nI_clamp (show i < 2 ^ 31 by omega), if_true]
      rfl
theorem q_strikes : op_strikes Rel := by
  intro j σ μ x1 hj hR
  rcases ix3 x1 with ⟨hT, hM⟩ | ⟨i, hi, rfl, hT, hM⟩
  · refine ⟨.inr 1, σ, 0, st2 μ 0 0 1, ?_, ?_, ⟨1, rfl, rfl, by decide⟩, rel_thr hR 1⟩
    · simp only [sX8_strikes, sX8_strikes_0, hT, Option.bind_some, o_x_r]
    · simp only [sX9_strikes, sX9_strikes_0, sX9_strikes_5, sX9_strikes_8, sX9_strikes_21, hM, isOut0, e10, Option.bind_some, if_false]
  · have hg : σ (15 + 6 * i) 4 = μ 12 i := rE_get hR.1 (tm_strikes i hi)
    refine ⟨.inl (σ (15 + 6 * i) 4), σ, μ 12 i, st2 μ 0 0 0, ?_, ?_, ⟨0, rfl, rfl, fun _ => by rw [hg]⟩, rel_thr hR 0⟩
    · simp only [sX8_strikes, sX8_strikes_0, sX8_strikes_5, hT, Option.bind_some, o_x_l, vin_nI hi (by decide), nI_clamp (show i < 2 ^ 31 by omega), if_true]
    · simp only [sX9_strikes, sX9_strikes_0, sX9_strikes_5, sX9_strikes_8, sX9_strikes_21, hM, isOut1, eq_self, Option.bind_some, vin_nI (show i < 4 by omega) (by decide), nI_clamp (show i < 2 ^ 31 by omega), if_true]
      rfl
theorem q_mended : op_mended Rel := by
  intro j σ μ x1 hj hR
  rcases ix3 x1 with ⟨hT, hM⟩ | ⟨i, hi, rfl, hT, hM⟩
  · refine ⟨.inr 1, σ, 0, st2 μ 0 0 1, ?_, ?_, ⟨1, rfl, rfl, by decide⟩, rel_thr hR 1⟩
    · simp only [sX8_mended, sX8_mended_0, hT, Option.bind_some, o_x_r]
    · simp only [sX9_mended, sX9_mended_0, sX9_mended_5, sX9_mended_8, sX9_mended_21, hM, isOut0, e10, Option.bind_some, if_false]
  · have hg : σ (16 + 6 * i) 2 = μ 16 i := rE_get hR.1 ((fun c (h : c < 3) => tm_mend c (by omega)) i hi)
    refine ⟨.inl (σ (16 + 6 * i) 2), σ, μ 16 i, st2 μ 0 0 0, ?_, ?_, ⟨0, rfl, rfl, fun _ => by rw [hg]⟩, rel_thr hR 0⟩
    · simp only [sX8_mended, sX8_mended_0, sX8_mended_5, hT, Option.bind_some, o_x_l, vin_nI hi (by decide), nI_clamp (show i < 2 ^ 31 by omega), if_true]
    · simp only [sX9_mended, sX9_mended_0, sX9_mended_5, sX9_mended_8, sX9_mended_21, hM, isOut1, eq_self, Option.bind_some, vin_nI (show i < 4 by omega) (by decide), nI_clamp (show i < 2 ^ 31 by omega), if_true]
      rfl
theorem q_overruns : op_overruns Rel := by
  intro j σ μ x1 hj hR
  rcases ix3 x1 with ⟨hT, hM⟩ | ⟨i, hi, rfl, hT, hM⟩
  · refine ⟨.inr 1, σ, 0, st2 μ 0 0 1, ?_, ?_, ⟨1, rfl, rfl, by decide⟩, rel_thr hR 1⟩
    · simp only [sX8_overruns, sX8_overruns_0, hT, Option.bind_some, o_x_r]
    · simp only [sX9_overruns, sX9_overruns_0, sX9_overruns_5, sX9_overruns_8, sX9_overruns_21, hM, isOut0, e10, Option.bind_some, if_false]
  · have hg : σ (39 + 4 * i) 4 = μ 24 i := rE_get hR.1 (tm_over i hi)
    refine ⟨.inl (σ (39 + 4 * i) 4), σ, μ 24 i, st2 μ 0 0 0, ?_, ?_, ⟨0, rfl, rfl, fun _ => by rw [hg]⟩, rel_thr hR 0⟩
    · simp only [sX8_overruns, sX8_overruns_0, sX8_overruns_5, hT, Option.bind_some, o_x_l, vin_nI hi (by decide), nI_clamp (show i < 2 ^ 31 by omega), if_true]
    · simp only [sX9_overruns, sX9_overruns_0, sX9_overruns_5, sX9_overruns_8, sX9_overruns_21, hM, isOut1, eq_self, Option.bind_some, vin_nI (show i < 3 by omega) (by decide), nI_clamp (show i < 2 ^ 31 by omega), if_true]
      rfl
theorem q_agreed : op_agreed Rel := by
  intro j σ μ x1 hj hR
  rcases ix4 x1 with ⟨hT, hM⟩ | ⟨i, hi, rfl, hT, hM⟩
  · refine ⟨.inr 1, σ, 0, st2 μ 0 0 1, ?_, ?_, ⟨1, rfl, rfl, by decide⟩, rel_thr hR 1⟩
    · simp only [sX8_agreed, sX8_agreed_0, hT, Option.bind_some, o_x_r]
    · simp only [sX9_agreed, sX9_agreed_0, sX9_agreed_5, sX9_agreed_8, sX9_agreed_21, hM, isOut0, e10, Option.bind_some, if_false]
  · have hg : σ (66 + i) 2 = μ 27 i := rE_get hR.1 (tm_agr i hi)
    refine ⟨.inl (σ (66 + i) 2), σ, μ 27 i, st2 μ 0 0 0, ?_, ?_, ⟨0, rfl, rfl, fun _ => by rw [hg]⟩, rel_thr hR 0⟩
    · simp only [sX8_agreed, sX8_agreed_0, sX8_agreed_5, hT, Option.bind_some, o_x_l, vin_nI hi (by decide), nI_clamp (show i < 2 ^ 31 by omega), if_true]
    · simp only [sX9_agreed, sX9_agreed_0, sX9_agreed_5, sX9_agreed_8, sX9_agreed_21, hM, isOut1, eq_self, Option.bind_some, vin_nI (show i < 4 by omega) (by decide), nI_clamp (show i < 2 ^ 31 by omega), if_true]
      rfl
theorem q_clock : op_clock Rel := by
  intro j σ μ x1 hj hR
  rcases ix3 x1 with ⟨hT, hM⟩ | ⟨i, hi, rfl, hT, hM⟩
  · refine ⟨.inr 1, σ, 0, st2 μ 0 0 1, ?_, ?_, ⟨1, rfl, rfl, by decide⟩, rel_thr hR 1⟩
    · simp only [sX8_clock, sX8_clock_0, hT, Option.bind_some, o_x_r]
    · simp only [sX9_clock, sX9_clock_0, sX9_clock_5, sX9_clock_8, sX9_clock_21, hM, isOut0, e10, Option.bind_some, if_false]
  · have hg : σ (15 + 6 * i) 2 = μ 13 i := rE_get hR.1 (tm_clock i hi)
    refine ⟨.inl (σ (15 + 6 * i) 2), σ, μ 13 i, st2 μ 0 0 0, ?_, ?_, ⟨0, rfl, rfl, fun _ => by rw [hg]⟩, rel_thr hR 0⟩
    · simp only [sX8_clock, sX8_clock_0, sX8_clock_5, hT, Option.bind_some, o_x_l, vin_nI hi (by decide), nI_clamp (show i < 2 ^ 31 by omega), if_true]
    · simp only [sX9_clock, sX9_clock_0, sX9_clock_5, sX9_clock_8, sX9_clock_21, hM, isOut1, eq_self, Option.bind_some, vin_nI (show i < 4 by omega) (by decide), nI_clamp (show i < 2 ^ 31 by omega), if_true]
      rfl
theorem q_position : op_position Rel := by
  intro j σ μ x1 hj hR
  rcases ix4 x1 with ⟨hT, hM⟩ | ⟨i, hi, rfl, hT, hM⟩
  · refine ⟨.inr 1, σ, 0, st2 μ 0 0 1, ?_, ?_, ⟨1, rfl, rfl, by decide⟩, rel_thr hR 1⟩
    · simp only [sX8_position, sX8_position_0, hT, Option.bind_some, o_x_r]
    · simp only [sX9_position, sX9_position_0, sX9_position_5, sX9_position_8, sX9_position_21, hM, isOut0, e10, Option.bind_some, if_false]
  · have hg : σ (70 + 2 * i) 1 = μ 34 i := rE_get hR.1 (tm_pos i hi)
    refine ⟨.inl (σ (70 + 2 * i) 1), σ, μ 34 i, st2 μ 0 0 0, ?_, ?_, ⟨0, rfl, rfl, fun _ => by rw [hg]⟩, rel_thr hR 0⟩
    · simp only [sX8_position, sX8_position_0, sX8_position_5, hT, Option.bind_some, o_x_l, vin_nI hi (by decide), nI_clamp (show i < 2 ^ 31 by omega), if_true]
    · simp only [sX9_position, sX9_position_0, sX9_position_5, sX9_position_8, sX9_position_21, hM, isOut1, eq_self, Option.bind_some, vin_nI (show i < 4 by omega) (by decide), nI_clamp (show i < 2 ^ 31 by omega), if_true]
      rfl
theorem q_isOn : op_isOn Rel := by
  intro j σ μ x1 hj hR
  rcases ix3 x1 with ⟨hT, hM⟩ | ⟨i, hi, rfl, hT, hM⟩
  · refine ⟨.inr 1, σ, 0, st2 μ 0 0 1, ?_, ?_, ⟨1, rfl, rfl, by decide⟩, rel_thr hR 1⟩
    · simp only [sX8_isOn, sX8_isOn_0, hT, Option.bind_some, o_x_r]
    · simp only [sX9_isOn, sX9_isOn_0, sX9_isOn_5, sX9_isOn_8, sX9_isOn_24, sX9_isOn_25, zok0, hM, isOut0, e10, Option.bind_some, if_false, if_true]
  · have hg : σ (15 + 6 * i) 6 = 1 - μ 10 i := rE_get hR.1 (tm_off i (by omega))
    have hb := hR.2.1 10 i
    rcases i32_z hb.1 hb.2 with h0 | h0
    · refine ⟨.inl 1, σ, 1, st2 μ 0 0 0, ?_, ?_, ⟨0, rfl, rfl, fun _ => rfl⟩, rel_thr hR 0⟩
      · simp only [sX8_isOn, sX8_isOn_0, sX8_isOn_5, hT, Option.bind_some, o_x_l, vin_nI hi (by decide), nI_clamp (show i < 2 ^ 31 by omega), if_true, hg, h0]
        rfl
      · simp only [sX9_isOn, sX9_isOn_0, sX9_isOn_5, sX9_isOn_8, sX9_isOn_24, sX9_isOn_25, zok1, hM, isOut1, eq_self, Option.bind_some, vin_nI (show i < 4 by omega) (by decide), nI_clamp (show i < 2 ^ 31 by omega), if_true, st2_ne μ 0 0 (show 10 ≠ 0 by decide), h0]
    · refine ⟨.inl 0, σ, 0, st2 μ 0 0 0, ?_, ?_, ⟨0, rfl, rfl, fun _ => rfl⟩, rel_thr hR 0⟩
      · simp only [sX8_isOn, sX8_isOn_0, sX8_isOn_5, hT, Option.bind_some, o_x_l, vin_nI hi (by decide), nI_clamp (show i < 2 ^ 31 by omega), if_true, hg, h0]
        rfl
      · simp only [sX9_isOn, sX9_isOn_0, sX9_isOn_5, sX9_isOn_8, sX9_isOn_24, sX9_isOn_25, zok0, hM, isOut1, eq_self, Option.bind_some, vin_nI (show i < 4 by omega) (by decide), nI_clamp (show i < 2 ^ 31 by omega), if_true, st2_ne μ 0 0 (show 10 ≠ 0 by decide), h0, e10, if_false]
theorem q_hasLetGo : op_hasLetGo Rel := by
  intro j σ μ x1 hj hR
  rcases ix4 x1 with ⟨hT, hM⟩ | ⟨i, hi, rfl, hT, hM⟩
  · refine ⟨.inr 1, σ, 0, st2 μ 0 0 1, ?_, ?_, ⟨1, rfl, rfl, by decide⟩, rel_thr hR 1⟩
    · simp only [sX8_hasLetGo, sX8_hasLetGo_0, hT, Option.bind_some, o_x_r]
    · simp only [sX9_hasLetGo, sX9_hasLetGo_0, sX9_hasLetGo_5, sX9_hasLetGo_8, sX9_hasLetGo_24, sX9_hasLetGo_25, zok0, hM, isOut0, e10, Option.bind_some, if_false, if_true]
  · have hg : σ (70 + 2 * i) 2 = μ 35 i := rE_get hR.1 (tm_loose i hi)
    have hb := hR.2.1 35 i
    rcases i32_z hb.1 hb.2 with h0 | h0
    · refine ⟨.inl 0, σ, 0, st2 μ 0 0 0, ?_, ?_, ⟨0, rfl, rfl, fun _ => rfl⟩, rel_thr hR 0⟩
      · simp only [sX8_hasLetGo, sX8_hasLetGo_0, sX8_hasLetGo_5, hT, Option.bind_some, o_x_l, vin_nI hi (by decide), nI_clamp (show i < 2 ^ 31 by omega), if_true, hg, h0, zok0]
      · simp only [sX9_hasLetGo, sX9_hasLetGo_0, sX9_hasLetGo_5, sX9_hasLetGo_8, sX9_hasLetGo_24, sX9_hasLetGo_25, zok0, hM, isOut1, eq_self, Option.bind_some, vin_nI hi (by decide), nI_clamp (show i < 2 ^ 31 by omega), if_true, st2_ne μ 0 0 (show 35 ≠ 0 by decide), h0]
    · refine ⟨.inl 1, σ, 1, st2 μ 0 0 0, ?_, ?_, ⟨0, rfl, rfl, fun _ => rfl⟩, rel_thr hR 0⟩
      · simp only [sX8_hasLetGo, sX8_hasLetGo_0, sX8_hasLetGo_5, hT, Option.bind_some, o_x_l, vin_nI hi (by decide), nI_clamp (show i < 2 ^ 31 by omega), if_true, hg, h0, zok1]
      · simp only [sX9_hasLetGo, sX9_hasLetGo_0, sX9_hasLetGo_5, sX9_hasLetGo_8, sX9_hasLetGo_24, sX9_hasLetGo_25, zok1, hM, isOut1, eq_self, Option.bind_some, vin_nI hi (by decide), nI_clamp (show i < 2 ^ 31 by omega), if_true, st2_ne μ 0 0 (show 35 ≠ 0 by decide), h0, e10, if_false]
theorem q_time : op_time Rel := by
  intro j σ μ hj hR
  have hg : σ 0 10 = μ 0 1 := rE_get hR.1 tm_time
  refine ⟨μ 0 1, σ, st2 μ 0 0 0, ?_, rfl, rel_thr hR 0⟩
  unfold sX8_time sX8_time_0
  rw [hg]
theorem q_mode : op_mode Rel := by
  intro j σ μ hj hR
  have hg : σ 0 11 = μ 0 2 := rE_get hR.1 tm_mode
  refine ⟨μ 0 2, σ, st2 μ 0 0 0, ?_, rfl, rel_thr hR 0⟩
  unfold sX8_mode sX8_mode_0
  rw [hg]
theorem q_word : op_word Rel := by
  intro j σ μ x1 x2 x3 hj hR
  rcases ix3 x1 with ⟨hT, hM⟩ | ⟨c, hc, rfl, hT, hM⟩
  · refine ⟨.inr 1, σ, 0, st2 μ 0 0 1, ?_, ?_, ⟨1, rfl, rfl, by decide⟩, rel_thr hR 1⟩
    · simp only [sX8_word, sX8_word_0, hT, Option.bind_some, o_x_r]
    · simp only [sX9_word, sX9_word_0, sX9_word_7, sX9_word_10, sX9_isPlace, sX9_isPlace_0, sX9_isPlace_4, sX9_isPlace_27, sX9_isPlace_28, zok0, eq_self, hM, isOut0, e10, Option.bind_some, if_false, if_true]
  rcases ix3 x2 with ⟨hT2, hM2⟩ | ⟨p, hp, rfl, hT2, hM2⟩
  · refine ⟨.inr 1, σ, 0, st2 μ 0 0 1, ?_, ?_, ⟨1, rfl, rfl, by decide⟩, rel_thr hR 1⟩
    · simp only [sX8_word, sX8_word_0, sX8_word_5, hT, hT2, Option.bind_some, o_x_l, o_x_r]
    · simp only [sX9_word, sX9_word_0, sX9_word_7, sX9_word_10, sX9_isPlace, sX9_isPlace_0, sX9_isPlace_4, sX9_isPlace_11, sX9_isPlace_27, sX9_isPlace_28, zok0, eq_self, hM, hM2, isOut0, e10, Option.bind_some, if_false, if_true]
  rcases ix6 x3 with ⟨hT3, hM3⟩ | ⟨w, hw, rfl, hT3, hM3⟩
  · refine ⟨.inr 1, σ, 0, st2 μ 0 0 1, ?_, ?_, ⟨1, rfl, rfl, by decide⟩, rel_thr hR 1⟩
    · simp only [sX8_word, sX8_word_0, sX8_word_5, sX8_word_10, hT, hT2, hT3, Option.bind_some, o_x_l, o_x_r]
    · simp only [sX9_word, sX9_word_0, sX9_word_7, sX9_word_10, sX9_isPlace, sX9_isPlace_0, sX9_isPlace_4, sX9_isPlace_11, sX9_isPlace_20, sX9_isPlace_27, sX9_isPlace_28, zok0, eq_self, hM, hM2, hM3, isOut0, e10, Option.bind_some, if_false, if_true]
  · have hx : 18 * c + (6 * p + w) = 18 * c + 6 * p + w := by omega
    have hg : σ (17 + 6 * c) (6 * p + w) = μ 6 (18 * c + (6 * p + w)) := rE_get hR.1 (tm_wr c (by omega) _ (by omega))
    have hf : σ (18 + 6 * c) (6 * p + w) = μ 7 (18 * c + (6 * p + w)) := rE_get hR.1 (tm_fl c (by omega) _ (by omega))
    rw [hx] at hg hf
    refine ⟨.inl (μ 6 (18 * c + 6 * p + w) ^^^ μ 7 (18 * c + 6 * p + w)).toInt16.toInt32, σ, (μ 6 (18 * c + 6 * p + w) ^^^ μ 7 (18 * c + 6 * p + w)).toInt16.toInt32, st2 μ 0 0 0, ?_, ?_, ⟨0, rfl, rfl, fun _ => rfl⟩, rel_thr hR 0⟩
    · simp only [sX8_word, sX8_word_0, sX8_word_5, sX8_word_10, sX8_word_16, sX8_word_34, sX4_seen, sX4_seen_0, sX4_seen_16, sX5_round, sX5_round_0, m6_nI, nI_add, hT, hT2, hT3, Option.bind_some, o_x_l, vin_nI hc (by decide), nI_clamp (show c < 2 ^ 31 by omega), vin_nI (show 6 * p + w < 18 by omega) (by decide), nI_clamp (show 6 * p + w < 2 ^ 31 by omega), if_true, hg, hf]
    · simp only [sX9_word, sX9_word_0, sX9_word_7, sX9_word_10, sX9_word_46, sX9_round, sX9_round_0, sX9_isPlace, sX9_isPlace_0, sX9_isPlace_4, sX9_isPlace_11, sX9_isPlace_20, sX9_isPlace_27, sX9_isPlace_28, zok1, eq_self, hM, hM2, hM3, isOut1, e10, Option.bind_some, if_false, if_true, nI_m18, nI_m6, nI_add, vin_nI (show 18 * c + 6 * p + w < 72 by omega) (by decide), nI_clamp (show 18 * c + 6 * p + w < 2 ^ 31 by omega)]
      rfl
