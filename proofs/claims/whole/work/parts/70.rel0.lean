/-! ===== the two at the start; all calls ===== -/
theorem m0_z (k : Nat) (hk : k ≠ 0) (j : Nat) : M0 k j = 0 := by
  obtain ⟨k, rfl⟩ : ∃ k', k = k' + 1 := ⟨k - 1, by omega⟩
  rfl
theorem bd_z (k : Nat) : (bd k).1 ≤ 0 ∧ 0 ≤ (bd k).2 := by
  unfold bd
  split <;> exact ⟨by decide, by decide⟩
theorem rel0_E : RelE T0 M0 := by
  unfold RelE
  decide +kernel
theorem rel0_B : InvB M0 := by
  intro k j
  by_cases hk : k = 0
  · subst hk
    exact i32_any _
  · rw [m0_z k hk]
    exact bd_z k
theorem rel0_M : InvM 0 M0 := by
  refine ⟨fun i => ?_, ⟨by decide, by decide⟩, Or.inl rfl, ⟨by decide, by decide⟩, fun c => ?_, ⟨rfl, rfl, fun i _ => rfl⟩, fun c _ _ => ?_, fun c _ h => absurd rfl h⟩
  · show okV 0 0
    unfold okV
    decide
  · show -(1008 * ((0 : Nat) : Int)) ≤ (0 : Int32).toInt ∧ (0 : Int32).toInt ≤ 1008 * ((0 : Nat) : Int)
    decide
  · show (0 : Int32).toInt ≤ 2
    decide
theorem rel0_T : InvT T0 M0 := by
  refine ⟨fun s hs => ?_, Or.inl ⟨rfl, rfl⟩, fun c _ h => absurd rfl h, fun p _ i hi h => ?_⟩
  · rcases (show s = 0 ∨ s = 1 ∨ s = 2 ∨ s = 3 by omega) with rfl | rfl | rfl | rfl <;> decide +kernel
  · have h2 : (0 : Int32) = nI (i + 1) := h
    rcases (show i = 0 ∨ i = 1 by omega) with rfl | rfl
    · exact absurd h2 (by decide)
    · exact absurd h2 (by decide)
theorem rel0_F : InvF T0 M0 := fun _ _ => ⟨fun _ _ => rfl, fun _ => rfl, fun _ _ => rfl, fun _ _ _ => ⟨rfl, fun _ _ => rfl⟩⟩
theorem rel0_L : InvL M0 := fun _ _ _ h => absurd rfl h
theorem rel_0 : Rel 0 T0 M0 := ⟨rel0_E, rel0_B, rel0_M, rel0_T, rel0_F, rel0_L⟩
theorem ops_all : opAll Rel := ⟨rel_skip, q_code, q_clear, q_slot, q_frame, q_time, q_mode, q_output, q_plain, q_isPlain, q_word, q_flip, q_stick, q_fix, q_isOn, q_strikes, q_shut, q_test, q_back, q_mended, q_overruns, q_read, q_limit, q_agreed, q_drift, q_lie, q_clock, q_save, q_load, q_fault, q_position, q_hasLetGo, q_arm, q_give, q_line, q_onShare, q_meanOutput, q_checksum, q_isTrue⟩
