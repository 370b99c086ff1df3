/-! ===== the calls: give, line, code ===== -/
theorem t_rs_def (K : Nat) (x a : Int32) (σ : TS) : sX8_resetActuators_4 (K + 1) x a σ = (if ((4 : Int32)) ≤ a then some (x, σ) else (if vin a 4 = true then (if (σ (70+2*(a.toNatClampNeg)) 2) = 0 then sX8_resetActuators_34 (sX8_resetActuators_4 K) x a σ else sX8_resetActuators_34 (sX8_resetActuators_4 K) (x + (1 : Int32)) a (st2 σ (70+2*(a.toNatClampNeg)) 2 ((0 : Int32)))) else none)) := rfl
theorem m_rs_def (K : Nat) (x a : Int32) (μ : TS) : sX9_give_81 (K + 1) x a μ = (if ((4 : Int32)) ≤ a then some (x, μ) else (if vin a 4 = true then (if (μ 35 (a.toNatClampNeg)) = 0 then sX9_give_101 (sX9_give_81 K) a x ((0 : Int32)) μ else sX9_give_101 (sX9_give_81 K) a x ((1 : Int32)) μ) else none)) := rfl
theorem reset_c {n : Nat} {σ μ : TS} (h : Rel n σ μ) {c : Nat} (hc : c < 4) (K K2 : Nat) (x : Int32) : ∃ y u v, sX8_resetActuators_4 (K + 1) x (nI c) σ = sX8_resetActuators_4 K y (nI (c + 1)) u ∧ sX9_give_81 (K2 + 1) x (nI c) μ = sX9_give_81 K2 y (nI (c + 1)) v ∧ Rel n u v ∧ v 0 = μ 0 := by
  have g : σ (70 + 2 * c) 2 = μ 35 c := rE_get h.1 (tm_loose c hc)
  have hb := h.2.1 35 c
  have hk : ¬ tieT (70 + 2 * c) 2 := by unfold tieT; omega
  have hup : Rel n (st2 σ (70 + 2 * c) 2 0) (st2 μ 35 c 0) := rel_up h (tm_loose c hc) rfl ⟨by decide, by decide⟩ hk rfl
  rw [t_rs_def, m_rs_def, if_neg (show ¬ (4 : Int32) ≤ nI c from nI_ge (b := 4) hc (by decide)), if_neg (show ¬ (4 : Int32) ≤ nI c from nI_ge (b := 4) hc (by decide)), if_pos (vin_nI hc (by decide)), if_pos (vin_nI hc (by decide)), nI_clamp (show c < 2 ^ 31 by omega), g]
  unfold sX8_resetActuators_34 sX9_give_101
  rw [if_pos (vin_nI hc (by decide)), if_pos (vin_nI hc (by decide)), nI_clamp (show c < 2 ^ 31 by omega), nar0, nI_1]
  rcases i32_z hb.1 hb.2 with h0 | h0
  · rw [if_pos h0, if_pos h0, a0]
    rw [st2_same (g.trans h0)] at hup
    exact ⟨x, σ, _, rfl, rfl, hup, rfl⟩
  · rw [if_neg (by rw [h0]; decide), if_neg (by rw [h0]; decide)]
    exact ⟨x + 1, _, _, rfl, rfl, hup, rfl⟩
theorem reset_all {n : Nat} {σ μ : TS} (h : Rel n σ μ) : ∃ y u v, sX8_resetActuators σ = some (y, u) ∧ sX9_give_81 5 0 0 μ = some (y, v) ∧ Rel n u v ∧ v 0 = μ 0 := by
  obtain ⟨y0, u0, v0, a0', b0, r0, z0⟩ := reset_c h (show 0 < 4 by decide) 4 4 0
  obtain ⟨y1, u1, v1, a1, b1, r1, z1⟩ := reset_c r0 (show 1 < 4 by decide) 3 3 y0
  obtain ⟨y2, u2, v2, a2, b2, r2, z2⟩ := reset_c r1 (show 2 < 4 by decide) 2 2 y1
  obtain ⟨y3, u3, v3, a3, b3, r3, z3⟩ := reset_c r2 (show 3 < 4 by decide) 1 1 y2
  refine ⟨y3, u3, v3, ?_, ?_, r3, by rw [z3, z2, z1, z0]⟩
  · have h0 : sX8_resetActuators σ = sX8_resetActuators_4 5 0 (nI 0) σ := rfl
    rw [h0, a0', a1, a2, a3, t_rs_def, if_pos (show (4 : Int32) ≤ nI (3 + 1) by decide)]
  · have h0 : sX9_give_81 5 0 0 μ = sX9_give_81 5 0 (nI 0) μ := rfl
    rw [h0, b0, b1, b2, b3, m_rs_def, if_pos (show (4 : Int32) ≤ nI (3 + 1) by decide)]
theorem g38_2 (x : Int32) (ν : TS) : sX9_give_38 x 2 ν = some (0, st2 ν 0 0 2) := by
  unfold sX9_give_38
  rw [if_neg (show ¬ (st2 ν 0 0 2) 0 0 ≤ 0 by rw [st2_eq]; decide)]
theorem g38_0 (x : Int32) (ν : TS) : sX9_give_38 x 0 ν = (if x = ((109 : Int32)) then some ((st2 (st2 (st2 ν 0 0 0) 0 38 ((32 : Int32))) 0 2 (((1 : Int32)) - ((st2 (st2 ν 0 0 0) 0 38 ((32 : Int32))) 0 2))) 0 2, st2 (st2 (st2 ν 0 0 0) 0 38 ((32 : Int32))) 0 2 (((1 : Int32)) - ((st2 (st2 ν 0 0 0) 0 38 ((32 : Int32))) 0 2))) else sX9_give_81 5 ((0 : Int32)) ((0 : Int32)) (st2 (st2 ν 0 0 0) 0 38 ((32 : Int32)))) := by
  unfold sX9_give_38
  rw [if_pos (show (st2 ν 0 0 0) 0 0 ≤ 0 by rw [st2_eq]; decide)]
theorem q_give : op_give Rel := by
  intro j σ μ x1 hj hR
  generalize lchr x1 = x
  rcases cmdR x with ⟨hT, hM⟩ | ⟨hx, hT, hM⟩
  · refine ⟨.inr 2, σ, 0, st2 μ 0 0 1, ?_, ?_, ⟨1, rfl, rfl, by decide⟩, rel_thr hR 1⟩
    · simp only [sX8_give, sX8_give_0, sX8_give_4, hT, rf0, Option.bind_some, o_x_r]
    · simp only [sX9_give, sX9_give_0, sX9_give_5, sX9_give_8, hM, isOut0, e10, Option.bind_some, if_false]
  have hg : σ 0 10 = μ 0 1 := rE_get hR.1 tm_time
  have hu : σ 0 13 = μ 0 39 := rE_get hR.1 tm_until
  have h12 : σ 0 12 = x ↔ μ 0 38 = x := by
    rcases hR.2.2.2.1.2.1 with ⟨g1, g2⟩ | ⟨g1, g2⟩
    · rw [g1, g2]
      rcases hx with rfl | rfl <;> exact ⟨fun h => absurd h (by decide), fun h => absurd h (by decide)⟩
    · rw [g2]
  have hbad : (¬ (μ 0 38 = x) ∨ ¬ (μ 0 1 ≤ μ 0 39)) → ∃ z u bb v, sX8_give x σ = some (z, u) ∧ sX9_give x μ = some (bb, v) ∧ okI [(2, 1), (4, 2)] z bb (v 0 0) ∧ Rel (j + 1) u v := fun hb => by
    refine ⟨.inr 4, σ, 0, st2 (st2 μ 0 0 0) 0 0 2, ?_, ?_, ⟨2, rfl, rfl, by decide⟩, rel_thr2 hR 0 2⟩
    · simp only [sX8_give, sX8_give_0, sX8_give_4, hT, rf1, Option.bind_some, o_x_l]
      unfold sX8_give_7 sX8_give_30 sX8_give_31
      rw [hg, hu]
      by_cases k : μ 0 38 = x
      · have hlt : μ 0 39 < μ 0 1 := by
          rw [lt_iff]
          have := hb.resolve_left (fun h => h k)
          rw [le_iff] at this
          omega
        rw [if_pos (h12.mpr k), if_pos hlt, rs0, Option.bind_some, o_x_r]
      · rw [if_neg (fun h => k (h12.mp h)), rs0, Option.bind_some, o_x_r]
    · simp only [sX9_give, sX9_give_0, sX9_give_5, hM, isOut1, Option.bind_some]
      unfold sX9_give_8 sX9_give_33
      rw [if_pos rfl]
      have e38 : (st2 μ 0 0 0) 0 38 = μ 0 38 := rfl
      have e1 : (st2 μ 0 0 0) 0 1 = μ 0 1 := rfl
      have e39 : (st2 μ 0 0 0) 0 39 = μ 0 39 := rfl
      rw [e38, e1, e39, g38_2]
      by_cases k : μ 0 38 = x
      · rw [if_pos k, if_neg (hb.resolve_left (fun h => h k))]
      · rw [if_neg k]
  by_cases k : μ 0 38 = x
  case neg => exact hbad (Or.inl k)
  by_cases k2 : μ 0 1 ≤ μ 0 39
  case neg => exact hbad (Or.inr k2)
  have hlt : ¬ μ 0 39 < μ 0 1 := by
    rw [lt_iff]
    rw [le_iff] at k2
    omega
  have hrel : Rel (j + 1) (st2 σ 0 12 0) (st2 (st2 (st2 μ 0 0 0) 0 0 0) 0 38 32) := by
    obtain ⟨h1, h2, h3, h4, h5, h6⟩ := rel_thr2 hR 0 0
    refine ⟨rE_M (rE_T h1 onT_012 0) onM_038 32, iB_up (k := 0) h2 (i32_any _), h3, ⟨fun s hs => ?_, Or.inl ⟨rfl, rfl⟩, fun d hd h10 => ?_, fun p hp i hi h32 w' hw' => ?_⟩, h5, h6⟩
    · rw [st2_ne _ _ _ (by omega)]
      exact h4.1 s hs
    · rw [st2_ne _ _ _ (by omega)]
      exact h4.2.2.1 d hd h10
    · rw [st2_ne _ _ _ (by omega)]
      exact h4.2.2.2 p hp i hi h32 w' hw'
  have hTg : sX8_give x σ = sX8_give_34 x σ := by
    simp only [sX8_give, sX8_give_0, sX8_give_4, hT, rf1, Option.bind_some, o_x_l]
    unfold sX8_give_7 sX8_give_31
    rw [hg, hu, if_pos (h12.mpr k), if_neg hlt, rs1, Option.bind_some, o_x_l]
  have hMg : sX9_give x μ = sX9_give_38 x 0 (st2 μ 0 0 0) := by
    simp only [sX9_give, sX9_give_0, sX9_give_5, hM, isOut1, Option.bind_some]
    unfold sX9_give_8
    have e38 : (st2 μ 0 0 0) 0 38 = μ 0 38 := rfl
    have e1 : (st2 μ 0 0 0) 0 1 = μ 0 1 := rfl
    have e39 : (st2 μ 0 0 0) 0 39 = μ 0 39 := rfl
    rw [if_pos rfl, e38, e1, e39, if_pos k, if_pos k2]
  rw [hTg, hMg, g38_0]
  unfold sX8_give_34
  by_cases hm : x = 109
  · rw [if_pos hm, if_pos hm]
    have hmd : σ 0 11 = μ 0 2 := rE_get hR.1 tm_mode
    have e1 : (st2 σ 0 12 0) 0 11 = μ 0 2 := hmd
    have e2 : (st2 (st2 (st2 μ 0 0 0) 0 0 0) 0 38 32) 0 2 = μ 0 2 := rfl
    rw [e1, e2]
    have hz : 1 - μ 0 2 = 0 ∨ 1 - μ 0 2 = 1 := by
      rcases hR.2.2.1.2.2.1 with h0 | h0
      · rw [h0]
        exact Or.inr (by decide)
      · rw [h0]
        exact Or.inl (by decide)
    refine ⟨_, _, _, _, rfl, rfl, ⟨0, rfl, rfl, fun _ => by rw [st2_eq, st2_eq]⟩, ?_⟩
    obtain ⟨h1, h2, ⟨m1, m2, m3, m4⟩, h4, h5, h6⟩ := hrel
    exact ⟨rE_up h1 tm_mode rfl, iB_up (k := 0) h2 (i32_any _), ⟨m1, m2, hz, m4⟩, ⟨fun s hs => by rw [st2_ne _ _ _ (by omega)]; exact h4.1 s hs, h4.2.1, fun d hd h10 => by rw [st2_ne _ _ _ (by omega)]; exact h4.2.2.1 d hd h10, fun p hp i hi h32 w' hw' => by rw [st2_ne _ _ _ (by omega)]; exact h4.2.2.2 p hp i hi h32 w' hw'⟩, h5, h6⟩
  · rw [if_neg hm, if_neg hm]
    obtain ⟨y, u, v, a, b, r, z⟩ := reset_all hrel
    rw [a, b, Option.bind_some]
    refine ⟨_, u, y, v, rfl, rfl, ⟨0, rfl, by rw [z]; rfl, fun _ => rfl⟩, r⟩
theorem q_line : op_line Rel := by
  intro j σ μ x1 x2 hj hR
  generalize lchr x2 = x
  obtain ⟨n, hn, hM43, hT43⟩ := tot_R hR (by omega)
  by_cases hw : x = 116 ∨ x = 99 ∨ x = 114
  case neg =>
    have w1 : ¬ x = 116 := fun h => hw (Or.inl h)
    have w2 : ¬ x = 99 := fun h => hw (Or.inr (Or.inl h))
    have w3 : ¬ x = 114 := fun h => hw (Or.inr (Or.inr h))
    refine ⟨.inr 2, σ, 0, st2 μ 0 0 1, ?_, ?_, ⟨1, rfl, rfl, by decide⟩, rel_thr hR 1⟩
    · simp only [sX8_line, sX8_line_0, sX8_line_23, if_neg w1, if_neg w2, if_neg w3, rf0, Option.bind_some, o_x_r]
    · simp only [sX9_line, sX9_line_0, sX9_line_24, sX9_line_27, if_neg w1, if_neg w2, if_neg w3, isOut0, e10, Option.bind_some, if_false]
  have hT0 : sX8_line x1 x σ = sX8_line_26 x1 x σ := by
    have h1 : sX8_line x1 x σ = sX8_line_18 x1 x σ := by
      unfold sX8_line sX8_line_0
      by_cases w1 : x = 116
      · rw [if_pos w1]
      · by_cases w2 : x = 99
        · rw [if_neg w1, if_pos w2]
        · rw [if_neg w1, if_neg w2, if_pos (hw.resolve_left w1 |>.resolve_left w2)]
    rw [h1]
    unfold sX8_line_18 sX8_line_23
    rw [rf1, Option.bind_some, o_x_l]
  have hM0 : sX9_line x1 x μ = sX9_line_27 x1 x 0 (st2 μ 0 0 0) := by
    have h1 : sX9_line x1 x μ = sX9_line_19 x1 x μ := by
      unfold sX9_line sX9_line_0
      by_cases w1 : x = 116
      · rw [if_pos w1]
      · by_cases w2 : x = 99
        · rw [if_neg w1, if_pos w2]
        · rw [if_neg w1, if_neg w2, if_pos (hw.resolve_left w1 |>.resolve_left w2)]
    rw [h1]
    unfold sX9_line_19 sX9_line_24
    rw [isOut1, Option.bind_some]
  -- how many are kept
  obtain ⟨k, hk, hkT, hkM⟩ : ∃ k, k = min n 30 ∧ (if (30 : Int32) < nI n then (30 : Int32) else nI n) = nI k ∧ ls (nI n) 30 = nI k := by
    by_cases h : n ≤ 30
    · refine ⟨n, by omega, ?_, ?_⟩
      · rw [if_neg (show ¬ (30 : Int32) < nI n from nI_nlt (a := 30) (b := n) h (by decide))]
      · unfold ls
        by_cases h2 : (30 : Int32) ≤ nI n
        · have h3 : n = 30 := by
            have := (nI_leI (a := 30) (by decide) (by omega)).mp h2
            omega
          rw [if_pos h2, h3]
          rfl
        · rw [if_neg h2]
    · refine ⟨30, by omega, ?_, ?_⟩
      · rw [if_pos (show (30 : Int32) < nI n from nI_lt (a := 30) (b := n) (by omega) (by omega))]
        rfl
      · unfold ls
        rw [if_pos (show (30 : Int32) ≤ nI n from nI_le (a := 30) (b := n) (by omega) (by omega))]
        rfl
  rw [hT0, hM0]
  have e43 : (st2 μ 0 0 0) 0 43 = nI n := hM43
  have hM1 : sX9_line_27 x1 x 0 (st2 μ 0 0 0) = (sX9_in x1 0 (nI k - 1) (st2 μ 0 0 0)).bind (fun z => sX9_line_49 x1 x z.1 z.2) := by
    unfold sX9_line_27 sX9_line_44
    rw [if_pos rfl, e43, m_lesser, Option.bind_some, hkM]
  have hT1 : ¬ x1 < 0 → sX8_line_26 x1 x σ = sX8_line_38 x1 x x1 (nI k) σ := fun h => by
    have hc : sX3_countKept σ = some (nI k, σ) := by
      unfold sX3_countKept sX3_countKept_0
      rw [hT43, hkT]
    unfold sX8_line_26
    rw [if_neg h, hc, Option.bind_some]
  rw [hM1]
  have hk1 : (nI k - 1).toInt = (k : Int) - 1 := by
    have e1 : (1 : Int32).toInt = 1 := by decide
    rw [fb_subI (by rw [nI_toInt (by omega), e1]; omega) (by rw [nI_toInt (by omega), e1]; omega), nI_toInt (by omega), e1]
  have hbadM : (∀ ν, sX9_in x1 0 (nI k - 1) ν = some (0, ν)) → (sX9_in x1 0 (nI k - 1) (st2 μ 0 0 0)).bind (fun z => sX9_line_49 x1 x z.1 z.2) = some (0, st2 (st2 μ 0 0 0) 0 0 2) := fun h => by
    rw [h, Option.bind_some]
    unfold sX9_line_49 sX9_line_57
    rw [if_pos rfl, st2_eq, if_neg (show ¬ (2 : Int32) ≤ 0 by decide)]
  rcases pk_ix x1 (n := k) (by omega) with h | h | ⟨i, hi, rfl⟩
  · refine ⟨.inr 5, σ, 0, st2 (st2 μ 0 0 0) 0 0 2, ?_, hbadM (in_lo h), ⟨2, rfl, rfl, by decide⟩, rel_thr2 hR 0 2⟩
    unfold sX8_line_26 sX8_line_41
    rw [if_pos h]
  · have h1 : (k : Int) ≤ x1.toInt := by
      rw [le_iff, nI_toInt (by omega)] at h
      exact h
    refine ⟨.inr 5, σ, 0, st2 (st2 μ 0 0 0) 0 0 2, ?_, hbadM (in_hi (by rw [lt_iff, hk1]; omega)), ⟨2, rfl, rfl, by decide⟩, rel_thr2 hR 0 2⟩
    have e0 : (0 : Int32).toInt = 0 := by decide
    rw [hT1 (by rw [lt_iff, e0]; omega)]
    unfold sX8_line_38 sX8_line_41
    rw [if_neg (by rw [lt_iff, nI_toInt (by omega)]; omega)]
  · have hin : i < n := by omega
    rw [hT1 (nI_pos (by omega)), in_ok (nI_pos (by omega)) (by rw [lt_iff, hk1, nI_toInt (by omega)]; omega), Option.bind_some]
    unfold sX8_line_38 sX9_line_49 sX9_line_57
    have hix : ∀ ν : TS, ν 0 43 = nI n → ((ν 0 43 - 1) - nI i) - ((ν 0 43 - 1) - nI i) / 30 * 30 = nI ((n - 1 - i) % 30) := fun ν h => by
      rw [h, show (1 : Int32) = nI 1 from rfl, pk_sub (by omega), pk_sub (by omega), nI_r30 (by omega)]
    have e43' : (st2 (st2 μ 0 0 0) 0 0 0) 0 43 = nI n := hM43
    have hm : (n - 1 - i) % 30 < 30 := Nat.mod_lt _ (by decide)
    rw [if_pos (nI_lt hi (by omega)), if_neg (show ¬ (1 : Int32) = 0 by decide), st2_eq, if_pos (show (0 : Int32) ≤ 0 by decide), hix _ e43', if_pos (vin_nI hm (by decide)), if_pos (vin_nI hm (by decide)), if_pos (vin_nI hm (by decide)), nI_clamp (show (n - 1 - i) % 30 < 2 ^ 31 by omega), t_tim hT43 (by omega) hin, t_comp hT43 (by omega) hin, t_let hT43 (by omega) hin, Option.bind_some, Option.bind_some, Option.bind_some]
    have g1 : σ 12 ((n - 1 - i) % 30) = μ 36 ((n - 1 - i) % 30) := rE_get hR.1 (tm_lt _ hm)
    have g2 : σ 13 ((n - 1 - i) % 30) = μ 37 ((n - 1 - i) % 30) := rE_get hR.1 (tm_lc _ hm)
    have g3 : σ 14 ((n - 1 - i) % 30) = μ 38 ((n - 1 - i) % 30) := rE_get hR.1 (tm_ll _ hm)
    by_cases w1 : x = 116
    · rw [if_pos w1, if_pos w1]
      exact ⟨_, σ, _, st2 (st2 μ 0 0 0) 0 0 0, rfl, rfl, ⟨0, rfl, rfl, fun _ => congrArg Sum.inl g1⟩, rel_thr2 hR 0 0⟩
    · by_cases w2 : x = 99
      · rw [if_neg w1, if_neg w1, if_pos w2, if_pos w2]
        exact ⟨_, σ, _, st2 (st2 μ 0 0 0) 0 0 0, rfl, rfl, ⟨0, rfl, rfl, fun _ => congrArg Sum.inl g2⟩, rel_thr2 hR 0 0⟩
      · rw [if_neg w1, if_neg w1, if_neg w2, if_neg w2]
        exact ⟨_, σ, _, st2 (st2 μ 0 0 0) 0 0 0, rfl, rfl, ⟨0, rfl, rfl, fun _ => congrArg Sum.inl g3⟩, rel_thr2 hR 0 0⟩
/-! code -/
/-- an instruction fits, or not, for both -/
theorem fitR (k n : Int32) {r : Nat} (hr : r < 4) : ((∀ σ, sX6_isInstruction k (nI r) n σ = some (0, σ)) ∧ (∀ μ, sX9_fits k n μ = some (0, μ))) ∨ ((okV k n ∧ -32768 ≤ n.toInt ∧ n.toInt ≤ 32767) ∧ (∀ σ, sX6_isInstruction k (nI r) n σ = some (1, σ)) ∧ (∀ μ, sX9_fits k n μ = some (1, μ))) := by
  have hreg : ∀ σ, sX5_isWithin (nI r) 0 3 σ = some (1, σ) := wi_ok (nI_pos (by omega)) (by rw [lt_iff, nI_toInt (by omega), show (3 : Int32).toInt = 3 by decide]; omega)
  have hT : ∀ σ, sX6_isInstruction k (nI r) n σ = sX6_isInstruction_6 k n 1 σ := fun σ => by
    unfold sX6_isInstruction sX6_isInstruction_0
    rw [hreg, Option.bind_some]
  simp only [hT]
  unfold sX6_isInstruction_6 sX9_fits sX9_fits_0 sX6_isInstruction_108 sX6_isInstruction_115 sX6_isInstruction_122 sX6_isInstruction_129 sX6_isInstruction_136 sX6_isInstruction_144 sX9_fits_102 sX9_fits_109 sX9_fits_116 sX9_fits_124
  simp only [e10, if_false]
  by_cases k97 : k = 97
  · subst k97
    simp only [eq_self, if_true]
    rcases iw n 0 3 (A := 0) (B := 3) (by decide) (by decide) with ⟨a, b⟩ | ⟨l, u, a, b⟩
    · exact Or.inl ⟨fun σ => by rw [a, Option.bind_some, if_pos zok0], fun μ => by rw [b, Option.bind_some, if_pos zok0]⟩
    · exact Or.inr ⟨⟨⟨fun _ => ⟨l, u⟩, fun h => absurd h (by decide), fun _ => ⟨l, by omega⟩⟩, by omega, by omega⟩, fun σ => by rw [a, Option.bind_some, if_pos zok1], fun μ => by rw [b, Option.bind_some, if_pos zok1]⟩
  simp only [if_neg k97]
  by_cases k105 : k = 105
  · subst k105
    simp only [eq_self, if_true]
    rcases iw n 0 3 (A := 0) (B := 3) (by decide) (by decide) with ⟨a, b⟩ | ⟨l, u, a, b⟩
    · exact Or.inl ⟨fun σ => by rw [a, Option.bind_some, if_pos zok0], fun μ => by rw [b, Option.bind_some, if_pos zok0]⟩
    · exact Or.inr ⟨⟨⟨fun _ => ⟨l, u⟩, fun h => absurd h (by decide), fun _ => ⟨l, by omega⟩⟩, by omega, by omega⟩, fun σ => by rw [a, Option.bind_some, if_pos zok1], fun μ => by rw [b, Option.bind_some, if_pos zok1]⟩
  simp only [if_neg k105]
  by_cases k106 : k = 106
  · subst k106
    simp only [eq_self, if_true]
    rcases iw n 0 9 (A := 0) (B := 9) (by decide) (by decide) with ⟨a, b⟩ | ⟨l, u, a, b⟩
    · exact Or.inl ⟨fun σ => by rw [a, Option.bind_some, if_pos zok0], fun μ => by rw [b, Option.bind_some, if_pos zok0]⟩
    · exact Or.inr ⟨⟨⟨fun h => absurd h (by decide), fun h => absurd h (by decide), fun _ => ⟨l, by omega⟩⟩, by omega, by omega⟩, fun σ => by rw [a, Option.bind_some, if_pos zok1], fun μ => by rw [b, Option.bind_some, if_pos zok1]⟩
  simp only [if_neg k106]
  by_cases k108 : k = 108
  · subst k108
    simp only [eq_self, if_true]
    rcases isNum n with ⟨a, _⟩ | ⟨l, u, a, _⟩
    · rcases iw n (-32768) 32767 (A := -32768) (B := 32767) (by decide) (by decide) with ⟨c, b⟩ | ⟨l, u, c, b⟩
      · exact Or.inl ⟨fun σ => by rw [a, Option.bind_some, if_pos zok0], fun μ => by rw [b, Option.bind_some, if_pos zok0]⟩
      · exact absurd (congrArg Prod.fst (Option.some.inj ((a (fun _ _ => 0)).symm.trans (isN_of c rfl _)))) (by decide)
    · rcases iw n (-32768) 32767 (A := -32768) (B := 32767) (by decide) (by decide) with ⟨c, b⟩ | ⟨_, _, c, b⟩
      · exact absurd (congrArg Prod.fst (Option.some.inj ((a (fun _ _ => 0)).symm.trans (isN_of c rfl _)))) (by decide)
      · exact Or.inr ⟨⟨⟨fun h => absurd h (by decide), fun h => absurd h (by decide), fun h => absurd rfl h⟩, l, u⟩, fun σ => by rw [a, Option.bind_some, if_pos zok1], fun μ => by rw [b, Option.bind_some, if_pos zok1]⟩
  simp only [if_neg k108]
  by_cases k109 : k = 109
  · subst k109
    simp only [eq_self, if_true]
    rcases iw n 0 5 (A := 0) (B := 5) (by decide) (by decide) with ⟨a, b⟩ | ⟨l, u, a, b⟩
    · exact Or.inl ⟨fun σ => by rw [a, Option.bind_some, if_pos zok0], fun μ => by rw [b, Option.bind_some, if_pos zok0]⟩
    · exact Or.inr ⟨⟨⟨fun h => absurd h (by decide), fun _ => ⟨l, u⟩, fun _ => ⟨l, by omega⟩⟩, by omega, by omega⟩, fun σ => by rw [a, Option.bind_some, if_pos zok1], fun μ => by rw [b, Option.bind_some, if_pos zok1]⟩
  simp only [if_neg k109]
  by_cases k111 : k = 111
  · subst k111
    simp only [eq_self, if_true]
    rcases iw n 0 3 (A := 0) (B := 3) (by decide) (by decide) with ⟨a, b⟩ | ⟨l, u, a, b⟩
    · exact Or.inl ⟨fun σ => by rw [a, Option.bind_some, if_pos zok0], fun μ => by rw [b, Option.bind_some, if_pos zok0]⟩
    · exact Or.inr ⟨⟨⟨fun _ => ⟨l, u⟩, fun h => absurd h (by decide), fun _ => ⟨l, by omega⟩⟩, by omega, by omega⟩, fun σ => by rw [a, Option.bind_some, if_pos zok1], fun μ => by rw [b, Option.bind_some, if_pos zok1]⟩
  simp only [if_neg k111]
  by_cases k114 : k = 114
  · subst k114
    simp only [eq_self, if_true]
    rcases iw n 0 5 (A := 0) (B := 5) (by decide) (by decide) with ⟨a, b⟩ | ⟨l, u, a, b⟩
    · exact Or.inl ⟨fun σ => by rw [a, Option.bind_some, if_pos zok0], fun μ => by rw [b, Option.bind_some, if_pos zok0]⟩
    · exact Or.inr ⟨⟨⟨fun h => absurd h (by decide), fun _ => ⟨l, u⟩, fun _ => ⟨l, by omega⟩⟩, by omega, by omega⟩, fun σ => by rw [a, Option.bind_some, if_pos zok1], fun μ => by rw [b, Option.bind_some, if_pos zok1]⟩
  simp only [if_neg k114]
  by_cases k115 : k = 115
  · subst k115
    simp only [eq_self, if_true]
    rcases iw n 0 3 (A := 0) (B := 3) (by decide) (by decide) with ⟨a, b⟩ | ⟨l, u, a, b⟩
    · exact Or.inl ⟨fun σ => by rw [a, Option.bind_some, if_pos zok0], fun μ => by rw [b, Option.bind_some, if_pos zok0]⟩
    · exact Or.inr ⟨⟨⟨fun _ => ⟨l, u⟩, fun h => absurd h (by decide), fun _ => ⟨l, by omega⟩⟩, by omega, by omega⟩, fun σ => by rw [a, Option.bind_some, if_pos zok1], fun μ => by rw [b, Option.bind_some, if_pos zok1]⟩
  simp only [if_neg k115]
  exact Or.inl ⟨fun _ => trivial, fun _ => trivial⟩
