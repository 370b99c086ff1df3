/-! ===== the calls: shut, test, fix, stick, flip ===== -/
theorem rel_of {j n N : Nat} {u v : TS} (hR : RelE u v) (hI : IC n N v) (hn : n ≤ j) (hN : N ≤ 3 * j) (ht : (v 0 1).toInt ≤ j) (hsk : SK v) (hT : InvT u v) (hF : InvF u v) : Rel j u v := by
  obtain ⟨a1, a2, a3, a4, a5, a6, a7, a8, a9⟩ := hI
  have hoc := onc_3 v
  refine ⟨hR, a9, ⟨a1, ⟨a2.1, ht⟩, a3, ⟨a4.1, by omega⟩, fun c => ?_, a6, hsk, a7⟩, hT, hF, a8⟩
  have := a5 c
  omega
theorem ic_of {j : Nat} {σ μ : TS} (h : Rel j σ μ) (hj : j < 512) : IC j (3 * j + 3) μ ∧ SK μ := by
  obtain ⟨h1, h2, ⟨m1, m2, m3, m4, m5, m6, m7, m8⟩, h4, h5, h6⟩ := h
  have hoc := onc_3 μ
  exact ⟨⟨m1, by omega, m3, ⟨m4.1, by omega, by omega⟩, m5, m6, m8, h6, h2⟩, m7⟩
theorem ic_thr {n N : Nat} {μ : TS} (h : IC n N μ) (x : Int32) : IC n N (st2 μ 0 0 x) := by
  obtain ⟨a1, a2, a3, a4, a5, a6, a7, a8, a9⟩ := h
  exact ⟨a1, a2, a3, a4, a5, a6, a7, a8, iB_up (k := 0) a9 (i32_any x)⟩
theorem ff_off {μ : TS} (h : FF μ) {c : Nat} (w : Int32) : FF (offM c w μ) := by
  obtain ⟨f1, f2, f3, f4⟩ := h
  refine ⟨f1, f2, f3, fun d hd h10 => ?_⟩
  have e10 : offM c w μ 10 = (st2 μ 10 c 1) 10 := rfl
  rw [e10] at h10
  by_cases hdc : d = c
  · subst hdc
    rw [st2_eq] at h10
    exact absurd h10 (by decide)
  · rw [st2_nj _ _ hdc] at h10
    exact f4 d hd h10
theorem onR {σ μ : TS} (h1 : RelE σ μ) (h2 : InvB μ) {c : Nat} (hc : c < 4) : (σ (15 + 6 * c) 6 = 0 ∧ ¬ μ 10 c = 0) ∨ (σ (15 + 6 * c) 6 = 1 ∧ μ 10 c = 0) := by
  have t6 : σ (15 + 6 * c) 6 = 1 - μ 10 c := rE_get h1 (tm_off c hc)
  have hb := h2 10 c
  rw [t6]
  rcases i32_z hb.1 hb.2 with h0 | h0
  · rw [h0]
    exact Or.inr ⟨by decide, rfl⟩
  · rw [h0]
    exact Or.inl ⟨by decide, by decide⟩
theorem q_shut : op_shut Rel := by
  intro j σ μ x1 hj hR
  rcases ix3 x1 with ⟨hT, hM⟩ | ⟨c, hc, rfl, hT, hM⟩
  · refine ⟨.inr 1, σ, 0, st2 μ 0 0 1, ?_, ?_, ⟨1, rfl, rfl, by decide⟩, rel_thr hR 1⟩
    · simp only [sX8_shut, sX8_shut_0, hT, Option.bind_some, o_x_r]
    · simp only [sX9_shut, sX9_shut_0, sX9_shut_5, sX9_shut_8, hM, isOut0, e10, Option.bind_some, if_false]
  rcases onR hR.1 hR.2.1 (show c < 4 by omega) with ⟨t6, m10⟩ | ⟨t6, m10⟩
  · have m10' : ¬ (st2 μ 0 0 0) 10 c = 0 := m10
    refine ⟨.inr 4, σ, 0, st2 (st2 μ 0 0 0) 0 0 2, ?_, ?_, ⟨2, rfl, rfl, by decide⟩, rel_thr2 hR 0 2⟩
    · simp only [sX8_shut, sX8_shut_0, sX8_shut_5, hT, Option.bind_some, o_x_l, o_x_r, vin_nI hc (by decide), nI_clamp (show c < 2 ^ 31 by omega), if_true, t6, rs0]
    · simp only [sX9_shut, sX9_shut_0, sX9_shut_5, sX9_shut_8, sX9_shut_28, hM, isOut1, eq_self, Option.bind_some, vin_nI (show c < 4 by omega) (by decide), nI_clamp (show c < 2 ^ 31 by omega), if_true, if_neg m10', st2_eq, l20, if_false]
  · have m10' : (st2 μ 0 0 0) 10 c = 0 := m10
    obtain ⟨hI, hsk⟩ := ic_of hR hj
    have hI2 : IC j (3 * j + 3) (st2 (st2 μ 0 0 0) 0 0 0) := ic_thr (ic_thr hI 0) 0
    have hI3 : IC j (3 * j + 3) (offM c 104 (st2 (st2 μ 0 0 0) 0 0 0)) := ic_off hI2 hc m10 (by decide)
    have hR2 : RS allS σ (st2 (st2 μ 0 0 0) 0 0 0) := rS_M (rS_M (rS_all.mpr hR.1) onM00 0) onM00 0
    have hR3 : RS allS (offT c 104 σ) (offM c 104 (st2 (st2 μ 0 0 0) 0 0 0)) := rS_off hR2 rfl hc 104
    have hT3 : InvT (offT c 104 σ) (offM c 104 (st2 (st2 μ 0 0 0) 0 0 0)) := it_off (μ := st2 (st2 μ 0 0 0) 0 0 0) hR.2.2.2.1 hc 104
    have hu0 : offT c 104 σ 0 = σ 0 := off_fr c 104 σ (k := 0) (by omega)
    have hF3 : InvF (offT c 104 σ) (offM c 104 (st2 (st2 μ 0 0 0) 0 0 0)) := fun a b => by
      rw [hu0] at a b
      exact ff_off (μ := st2 (st2 μ 0 0 0) 0 0 0) (hR.2.2.2.2.1 a b) 104
    obtain ⟨a, ha, h43, -, -⟩ := tot_nI hI2
    have htime : offM c 104 (st2 (st2 μ 0 0 0) 0 0 0) 0 1 = μ 0 1 := by
      unfold offM logM
      rw [st2_nj _ _ (show (1 : Nat) ≠ 43 by decide)]
      rfl
    have hno : sX8_countOn (offT c 104 σ) = some (nI (nOn (offM c 104 (st2 (st2 μ 0 0 0) 0 0 0))), offT c 104 σ) := t_on (fun d hd => on_T hR3 hI3 rfl (by omega))
    refine ⟨.inl (nI (nOn (offM c 104 (st2 (st2 μ 0 0 0) 0 0 0)))), offT c 104 σ, nI (nOn (offM c 104 (st2 (st2 μ 0 0 0) 0 0 0))), offM c 104 (st2 (st2 μ 0 0 0) 0 0 0), ?_, ?_, ⟨0, rfl, ?_, fun _ => rfl⟩, rel_of (rS_all.mp hR3) hI3 (by omega) (by omega) ?_ (sk_off hsk c 104) hT3 hF3⟩
    · simp only [sX8_shut, sX8_shut_0, sX8_shut_5, hT, Option.bind_some, o_x_l, o_x_r, vin_nI hc (by decide), nI_clamp (show c < 2 ^ 31 by omega), if_true, t6, rs1, sX8_shut_17, t_off hc (show vp_nar .char 104 = 104 from rfl) ha (tot_T hR2 rfl h43), sX8_shut_24, hno, sX8_shut_28]
    · simp only [sX9_shut, sX9_shut_0, sX9_shut_5, sX9_shut_8, sX9_shut_28, hM, isOut1, eq_self, Option.bind_some, vin_nI (show c < 4 by omega) (by decide), nI_clamp (show c < 2 ^ 31 by omega), if_true, if_pos m10', st2_eq, l00, if_false, m_off 104 (show c < 4 by omega) ha h43, sX9_shut_47, m_on, sX9_shut_51]
    · unfold offM logM
      rw [st2_nj _ _ (show (0 : Nat) ≠ 43 by decide)]
      rfl
    · rw [htime]
      have := hR.2.2.1.2.1.2
      omega
theorem stuckR {σ μ : TS} (h1 : RelE σ μ) (h2 : InvB μ) {c : Nat} (hc : c < 4) : (μ 17 c = 0 ∧ sX1_hasStuckBit c σ = some (0, σ)) ∨ (¬ μ 17 c = 0 ∧ ¬ μ 17 c ≤ 0 ∧ sX1_hasStuckBit c σ = some (1, σ)) := by
  have t5 : σ (15 + 6 * c) 5 = μ 17 c - 1 := rE_get h1 (tm_stuck c hc)
  obtain ⟨a, ha, he⟩ := b_nI h2 17 c (n := 4) rfl
  unfold sX1_hasStuckBit sX1_hasStuckBit_0 sX1_hasStuckBit_13
  rw [t5, he]
  by_cases ha0 : a = 0
  · subst ha0
    rw [if_pos (show nI 0 - 1 = -1 from rfl), if_pos zok0]
    exact Or.inl ⟨rfl, rfl⟩
  · obtain ⟨b, rfl⟩ : ∃ b, a = b + 1 := ⟨a - 1, by omega⟩
    rw [nI_pred, if_neg (nI_ne_m1 (by omega)), if_pos zok1]
    exact Or.inr ⟨nI_ne0 (by omega) (by omega), nI_nle (by omega) (by omega), rfl⟩
theorem q_fix : op_fix Rel := by
  intro j σ μ x1 hj hR
  rcases ix3 x1 with ⟨hT, hM⟩ | ⟨c, hc, rfl, hT, hM⟩
  · refine ⟨.inr 1, σ, 0, st2 μ 0 0 1, ?_, ?_, ⟨1, rfl, rfl, by decide⟩, rel_thr hR 1⟩
    · simp only [sX8_fix, sX8_fix_0, hT, Option.bind_some, o_x_r]
    · simp only [sX9_fix, sX9_fix_0, sX9_fix_5, sX9_fix_8, hM, isOut0, e10, Option.bind_some, if_false]
  have hrel : Rel (j + 1) (st2 σ (15 + 6 * c) 5 (-1)) (st2 (st2 μ 0 0 0) 17 c 0) := by
    obtain ⟨h1, h2, ⟨m1, m2, m3, m4, m5, m6, m7, m8⟩, h4, h5, h6⟩ := rel_thr hR 0
    have z17 : ∀ d, μ 17 d = 0 → (st2 (st2 μ 0 0 0) 17 c 0) 17 d = 0 := fun d h => by
      by_cases hd : d = c
      · rw [hd, st2_eq]
      · rw [st2_nj _ _ hd]
        exact h
    have hk : ¬ tieT (15 + 6 * c) 5 := by unfold tieT; omega
    refine ⟨rE_up h1 (tm_stuck c (by omega)) (by decide), iB_up (k := 17) (v := 0) h2 ⟨by decide, by decide⟩, ⟨m1, m2, m3, m4, m5, ⟨m6.1, z17 3 m6.2.1, m6.2.2⟩, m7, fun d hd h17 => ?_⟩, iT_T h4 _ hk, ?_, h6⟩
    · exact m8 d hd (fun h0 => h17 (z17 d h0))
    · refine iF_T (μ := st2 (st2 μ 0 0 0) 17 c 0) (fun a b => ?_) _ hk
      obtain ⟨f1, f2, f3, f4⟩ := h5 a b
      exact ⟨f1, f2, fun d hd => z17 d (f3 d hd), f4⟩
  rcases stuckR hR.1 hR.2.1 (show c < 4 by omega) with ⟨g0, g1⟩ | ⟨g0, g2, g1⟩
  · have g0' : (st2 μ 0 0 0) 17 c ≤ 0 := by
      show μ 17 c ≤ 0
      rw [g0]
      decide
    refine ⟨.inl 0, _, 0, _, ?_, ?_, ⟨0, rfl, rfl, fun _ => rfl⟩, hrel⟩
    · simp only [sX8_fix, sX8_fix_0, sX8_fix_5, sX8_fix_14, hT, Option.bind_some, o_x_l, vin_nI hc (by decide), nI_clamp (show c < 2 ^ 31 by omega), if_true, g1, zok0]
    · simp only [sX9_fix, sX9_fix_0, sX9_fix_5, sX9_fix_8, sX9_fix_27, hM, isOut1, eq_self, Option.bind_some, vin_nI (show c < 4 by omega) (by decide), nI_clamp (show c < 2 ^ 31 by omega), if_true, if_pos g0', zok0]
  · have g2' : ¬ (st2 μ 0 0 0) 17 c ≤ 0 := g2
    refine ⟨.inl 1, _, 1, _, ?_, ?_, ⟨0, rfl, rfl, fun _ => rfl⟩, hrel⟩
    · simp only [sX8_fix, sX8_fix_0, sX8_fix_5, sX8_fix_14, hT, Option.bind_some, o_x_l, vin_nI hc (by decide), nI_clamp (show c < 2 ^ 31 by omega), if_true, g1, zok1]
    · simp only [sX9_fix, sX9_fix_0, sX9_fix_5, sX9_fix_8, sX9_fix_27, hM, isOut1, eq_self, Option.bind_some, vin_nI (show c < 4 by omega) (by decide), nI_clamp (show c < 2 ^ 31 by omega), if_true, if_neg g2', zok1]
theorem lbv_z (x : Int32) : lbv x = 0 ∨ lbv x = 1 := by
  unfold lbv
  split
  · exact Or.inl rfl
  · exact Or.inr rfl
theorem onT_14 : onT 0 14 = false := by decide +kernel
theorem q_stick : op_stick Rel := by
  intro j σ μ x1 x2 x3 x4 hj hR
  rcases ix3 x1 with ⟨hT, hM⟩ | ⟨c, hc, rfl, hT, hM⟩
  · refine ⟨.inr 1, σ, 0, st2 μ 0 0 1, ?_, ?_, ⟨1, rfl, rfl, by decide⟩, rel_thr hR 1⟩
    · simp only [sX8_stick, sX8_stick_0, hT, Option.bind_some, o_x_r]
    · simp only [sX9_stick, sX9_stick_0, sX9_stick_5, sX9_stick_29, sX9_stick_30, sX9_stick_33, hM, isOut0, eq_self, e10, Option.bind_some, if_true, if_false]
  rcases ix4 x2 with ⟨hT2, hM2⟩ | ⟨r, hr, rfl, hT2, hM2⟩
  · refine ⟨.inr 1, σ, 0, st2 μ 0 0 1, ?_, ?_, ⟨1, rfl, rfl, by decide⟩, rel_thr hR 1⟩
    · simp only [sX8_stick, sX8_stick_0, sX8_stick_5, hT, hT2, Option.bind_some, o_x_l, o_x_r]
    · simp only [sX9_stick, sX9_stick_0, sX9_stick_5, sX9_stick_12, sX9_stick_29, sX9_stick_30, sX9_stick_33, hM, hM2, isOut0, eq_self, e10, Option.bind_some, if_true, if_false]
  rcases ix16 x3 with ⟨hT3, hM3⟩ | ⟨b, hb, rfl, hT3, hM3⟩
  · refine ⟨.inr 1, σ, 0, st2 μ 0 0 1, ?_, ?_, ⟨1, rfl, rfl, by decide⟩, rel_thr hR 1⟩
    · simp only [sX8_stick, sX8_stick_0, sX8_stick_5, sX8_stick_10, hT, hT2, hT3, Option.bind_some, o_x_l, o_x_r]
    · simp only [sX9_stick, sX9_stick_0, sX9_stick_5, sX9_stick_12, sX9_stick_22, sX9_stick_29, sX9_stick_30, sX9_stick_33, hM, hM2, hM3, isOut0, eq_self, e10, Option.bind_some, if_true, if_false]
  have hz := lbv_z x4
  generalize hw : lbv x4 = w at *
  have hzw : zok w = true := by
    rcases hz with rfl | rfl <;> rfl
  have hnw : vp_nar .boolean w = w := by
    rcases hz with rfl | rfl <;> rfl
  have hrel : Rel (j + 1) (st2 (st2 (st2 (st2 (st2 σ 0 14 1) (15 + 6 * c) 5 (nI r)) (15 + 6 * c) 9 (nI b)) (15 + 6 * c) 10 w) (15 + 6 * c) 7 0) (st2 (st2 (st2 (st2 (st2 μ 0 0 0) 17 c (nI r + 1)) 18 c (nI b)) 19 c w) 11 c 0) := by
    obtain ⟨h1, h2, ⟨m1, m2, m3, m4, m5, m6, m7, m8⟩, h4, h5, h6⟩ := rel_thr hR 0
    have e17 : ∀ d, d ≠ c → (st2 (st2 (st2 (st2 (st2 μ 0 0 0) 17 c (nI r + 1)) 18 c (nI b)) 19 c w) 11 c 0) 17 d = μ 17 d := fun d hd => by
      show (st2 (st2 μ 0 0 0) 17 c (nI r + 1)) 17 d = μ 17 d
      rw [st2_nj _ _ hd]
      rfl
    have e11 : ∀ d, d ≠ c → (st2 (st2 (st2 (st2 (st2 μ 0 0 0) 17 c (nI r + 1)) 18 c (nI b)) 19 c w) 11 c 0) 11 d = μ 11 d := fun d hd => by
      rw [st2_nj _ _ hd]
      rfl
    have eT : ∀ k i, k ≠ 15 + 6 * c → k ≠ 0 → (st2 (st2 (st2 (st2 (st2 σ 0 14 1) (15 + 6 * c) 5 (nI r)) (15 + 6 * c) 9 (nI b)) (15 + 6 * c) 10 w) (15 + 6 * c) 7 0) k i = σ k i := fun k i hk hk0 => by
      rw [st2_ne _ _ _ hk, st2_ne _ _ _ hk, st2_ne _ _ _ hk, st2_ne _ _ _ hk, st2_ne _ _ _ hk0]
    have e0 : ∀ i, (st2 (st2 (st2 (st2 (st2 σ 0 14 1) (15 + 6 * c) 5 (nI r)) (15 + 6 * c) 9 (nI b)) (15 + 6 * c) 10 w) (15 + 6 * c) 7 0) 0 i = (st2 σ 0 14 1) 0 i := fun i => by
      rw [st2_ne _ _ _ (by omega), st2_ne _ _ _ (by omega), st2_ne _ _ _ (by omega), st2_ne _ _ _ (by omega)]
    refine ⟨?_, ?_, ⟨m1, m2, m3, m4, m5, ⟨m6.1, ?_, m6.2.2⟩, m7, fun d hd h17 => ?_⟩, ⟨fun s hs => ?_, ?_, fun d hd h10 => ?_, fun p hp i hi h32 w' hw' => ?_⟩, fun a => ?_, h6⟩
    · exact rE_M (rE_T (rE_up (rE_up (rE_up (rE_T h1 onT_14 1) (tm_stuck c (by omega)) (pm1 (nI r)).symm) (tm_sbit c hc) rfl) (tm_sset c hc) rfl) (onT_7 c (by omega)) 0) (onM_11 c (by omega)) 0
    · refine iB_up (k := 11) (v := 0) (iB_up (k := 19) (iB_up (k := 18) (iB_up (k := 17) h2 ?_) ?_) ?_) ⟨by decide, by decide⟩
      · rw [nI_1, nI_toInt (by omega)]
        show (0 : Int) ≤ _ ∧ _ ≤ (4 : Int)
        omega
      · rw [nI_toInt (by omega)]
        show (0 : Int) ≤ _ ∧ _ ≤ (15 : Int)
        omega
      · show (0 : Int) ≤ _ ∧ _ ≤ (1 : Int)
        rcases hz with rfl | rfl <;> decide
    · rw [e17 3 (by omega)]
      exact m6.2.1
    · by_cases hdc : d = c
      · rw [hdc, st2_eq]
      · rw [e17 d hdc] at h17
        rw [e11 d hdc]
        exact m8 d hd h17
    · rw [eT _ _ (by omega) (by omega)]
      exact h4.1 s hs
    · rw [e0]
      exact h4.2.1
    · by_cases hdc : d = c
      · rw [hdc, st2_eq, st2_eq]
      · rw [eT _ _ (by omega) (by omega), e11 d hdc]
        exact h4.2.2.1 d hd h10
    · rw [eT _ _ (by omega) (by omega)]
      exact h4.2.2.2 p hp i hi h32 w' hw'
    · rw [e0, st2_eq] at a
      exact absurd a (by decide)
  have hR14 : RelE (st2 σ 0 14 1) μ := rE_T hR.1 onT_14 1
  rcases stuckR hR14 hR.2.1 (show c < 4 by omega) with ⟨g0, g1⟩ | ⟨g0, g2, g1⟩
  · have g0' : (st2 μ 0 0 0) 17 c ≤ 0 := by
      show μ 17 c ≤ 0
      rw [g0]
      decide
    refine ⟨.inl 0, _, 0, _, ?_, ?_, ⟨0, rfl, rfl, fun _ => rfl⟩, hrel⟩
    · simp only [sX8_stick, sX8_stick_0, sX8_stick_5, sX8_stick_10, sX8_stick_16, sX8_stick_30, sX8_stick_45, sX1_letStick, sX1_letStick_0, hT, hT2, hT3, Option.bind_some, o_x_l, vin_nI hc (by decide), nI_clamp (show c < 2 ^ 31 by omega), if_true, g1, hzw, zok0]
    · simp only [sX9_stick, sX9_stick_0, sX9_stick_5, sX9_stick_12, sX9_stick_22, sX9_stick_30, sX9_stick_33, sX9_stick_52, hM, hM2, hM3, isOut1, eq_self, e10, Option.bind_some, vin_nI (show c < 4 by omega) (by decide), nI_clamp (show c < 2 ^ 31 by omega), if_true, if_false, if_pos g0', hnw, nar0, zok0]
  · have g2' : ¬ (st2 μ 0 0 0) 17 c ≤ 0 := g2
    refine ⟨.inl 1, _, 1, _, ?_, ?_, ⟨0, rfl, rfl, fun _ => rfl⟩, hrel⟩
    · simp only [sX8_stick, sX8_stick_0, sX8_stick_5, sX8_stick_10, sX8_stick_16, sX8_stick_30, sX8_stick_45, sX1_letStick, sX1_letStick_0, hT, hT2, hT3, Option.bind_some, o_x_l, vin_nI hc (by decide), nI_clamp (show c < 2 ^ 31 by omega), if_true, g1, hzw, zok1]
    · simp only [sX9_stick, sX9_stick_0, sX9_stick_5, sX9_stick_12, sX9_stick_22, sX9_stick_30, sX9_stick_33, sX9_stick_52, hM, hM2, hM3, isOut1, eq_self, e10, Option.bind_some, vin_nI (show c < 4 by omega) (by decide), nI_clamp (show c < 2 ^ 31 by omega), if_true, if_false, if_neg g2', hnw, nar0, zok1]
theorem q_flip : op_flip Rel := by
  intro j σ μ x1 x2 x3 x4 hj hR
  rcases ix3 x1 with ⟨hT, hM⟩ | ⟨c, hc, rfl, hT, hM⟩
  · refine ⟨.inr 1, σ, 0, st2 μ 0 0 1, ?_, ?_, ⟨1, rfl, rfl, by decide⟩, rel_thr hR 1⟩
    · simp only [sX8_flip, sX8_flip_0, hT, Option.bind_some, o_x_r]
    · simp only [sX9_flip, sX9_flip_0, sX9_flip_7, sX9_flip_25, sX9_flip_26, sX9_flip_29, sX9_isPlace, sX9_isPlace_0, sX9_isPlace_4, sX9_isPlace_27, sX9_isPlace_28, zok0, eq_self, hM, isOut0, e10, Option.bind_some, if_false, if_true]
  rcases ix3 x2 with ⟨hT2, hM2⟩ | ⟨p, hp, rfl, hT2, hM2⟩
  · refine ⟨.inr 1, σ, 0, st2 μ 0 0 1, ?_, ?_, ⟨1, rfl, rfl, by decide⟩, rel_thr hR 1⟩
    · simp only [sX8_flip, sX8_flip_0, sX8_flip_5, hT, hT2, Option.bind_some, o_x_l, o_x_r]
    · simp only [sX9_flip, sX9_flip_0, sX9_flip_7, sX9_flip_25, sX9_flip_26, sX9_flip_29, sX9_isPlace, sX9_isPlace_0, sX9_isPlace_4, sX9_isPlace_11, sX9_isPlace_27, sX9_isPlace_28, zok0, eq_self, hM, hM2, isOut0, e10, Option.bind_some, if_false, if_true]
  rcases ix6 x3 with ⟨hT3, hM3⟩ | ⟨w, hw, rfl, hT3, hM3⟩
  · refine ⟨.inr 1, σ, 0, st2 μ 0 0 1, ?_, ?_, ⟨1, rfl, rfl, by decide⟩, rel_thr hR 1⟩
    · simp only [sX8_flip, sX8_flip_0, sX8_flip_5, sX8_flip_10, hT, hT2, hT3, Option.bind_some, o_x_l, o_x_r]
    · simp only [sX9_flip, sX9_flip_0, sX9_flip_7, sX9_flip_25, sX9_flip_26, sX9_flip_29, sX9_isPlace, sX9_isPlace_0, sX9_isPlace_4, sX9_isPlace_11, sX9_isPlace_20, sX9_isPlace_27, sX9_isPlace_28, zok0, eq_self, hM, hM2, hM3, isOut0, e10, Option.bind_some, if_false, if_true]
  rcases ix16 x4 with ⟨hT4, hM4⟩ | ⟨b, hb, rfl, hT4, hM4⟩
  · refine ⟨.inr 1, σ, 0, st2 μ 0 0 1, ?_, ?_, ⟨1, rfl, rfl, by decide⟩, rel_thr hR 1⟩
    · simp only [sX8_flip, sX8_flip_0, sX8_flip_5, sX8_flip_10, sX8_flip_16, hT, hT2, hT3, hT4, Option.bind_some, o_x_l, o_x_r]
    · simp only [sX9_flip, sX9_flip_0, sX9_flip_7, sX9_flip_18, sX9_flip_25, sX9_flip_26, sX9_flip_29, sX9_isPlace, sX9_isPlace_0, sX9_isPlace_4, sX9_isPlace_11, sX9_isPlace_20, sX9_isPlace_28, zok1, eq_self, hM, hM2, hM3, hM4, isOut0, e10, Option.bind_some, if_false, if_true]
  have hx : 18 * c + (6 * p + w) = 18 * c + 6 * p + w := by omega
  have hf : σ (18 + 6 * c) (6 * p + w) = μ 7 (18 * c + (6 * p + w)) := rE_get hR.1 (tm_fl c (by omega) _ (by omega))
  rw [hx] at hf
  have hb16 := turn_16 (hR.2.1 7 (18 * c + 6 * p + w)) hb
  have hmem : (18 + 6 * c, 6 * p + w, 7, 18 * c + 6 * p + w, 0) ∈ tabL := by
    rw [← hx]
    exact tm_fl c (by omega) _ (by omega)
  generalize hn : μ 7 (18 * c + 6 * p + w) ^^^ ((1 : Int32) <<< (nI b &&& 31)) = nv at *
  have hrel : Rel (j + 1) (st2 (st2 σ 0 14 1) (18 + 6 * c) (6 * p + w) nv) (st2 (st2 μ 0 0 0) 7 (18 * c + 6 * p + w) nv) := by
    obtain ⟨h1, h2, ⟨m1, m2, m3, m4, m5, m6, m7, m8⟩, h4, h5, h6⟩ := rel_thr hR 0
    have eT : ∀ k i, k ≠ 18 + 6 * c → k ≠ 0 → (st2 (st2 σ 0 14 1) (18 + 6 * c) (6 * p + w) nv) k i = σ k i := fun k i hk hk0 => by
      rw [st2_ne _ _ _ hk, st2_ne _ _ _ hk0]
    have e0 : ∀ i, (st2 (st2 σ 0 14 1) (18 + 6 * c) (6 * p + w) nv) 0 i = (st2 σ 0 14 1) 0 i := fun i => by
      rw [st2_ne _ _ _ (by omega)]
    refine ⟨rE_up (rE_T h1 onT_14 1) hmem rfl, iB_up (k := 7) h2 hb16, ⟨m1, m2, m3, m4, m5, ⟨m6.1, m6.2.1, fun i hi => ?_⟩, m7, m8⟩, ⟨fun s hs => ?_, ?_, fun d hd h10 => ?_, fun p hp i hi h32 w' hw' => ?_⟩, fun a => ?_, h6⟩
    · rw [st2_nj _ _ (by omega)]
      exact m6.2.2 i hi
    · rw [eT _ _ (by omega) (by omega)]
      exact h4.1 s hs
    · rw [e0]
      exact h4.2.1
    · rw [eT _ _ (by omega) (by omega)]
      exact h4.2.2.1 d hd h10
    · rw [eT _ _ (by omega) (by omega)]
      exact h4.2.2.2 p hp i hi h32 w' hw'
    · rw [e0, st2_eq] at a
      exact absurd a (by decide)
  have t18 : (st2 σ 0 14 1) (18 + 6 * c) (6 * p + w) = μ 7 (18 * c + 6 * p + w) := (congrFun (st2_ne _ _ _ (by omega)) _).trans hf
  have m18 : (st2 μ 0 0 0) 7 (18 * c + 6 * p + w) = μ 7 (18 * c + 6 * p + w) := rfl
  refine ⟨.inl (nI (cntb nv)), _, nI (cntb nv), _, ?_, ?_, ⟨0, rfl, rfl, fun _ => rfl⟩, hrel⟩
  · simp only [sX8_flip, sX8_flip_0, sX8_flip_5, sX8_flip_10, sX8_flip_16, sX8_flip_23, sX8_flip_48, sX4_turn, sX4_turn_0, sX4_turn_21, m6_nI, nI_add, hT, hT2, hT3, hT4, Option.bind_some, o_x_l, vin_nI hc (by decide), nI_clamp (show c < 2 ^ 31 by omega), vin_nI (show 6 * p + w < 18 by omega) (by decide), nI_clamp (show 6 * p + w < 2 ^ 31 by omega), if_true, t18, hn, st2_eq, cnt_T hb16]
  · simp only [sX9_flip, sX9_flip_0, sX9_flip_7, sX9_flip_18, sX9_flip_26, sX9_flip_29, sX9_flip_71, sX9_isPlace, sX9_isPlace_0, sX9_isPlace_4, sX9_isPlace_11, sX9_isPlace_20, sX9_isPlace_28, zok1, eq_self, hM, hM2, hM3, hM4, isOut1, e10, Option.bind_some, if_false, if_true, nI_m18, nI_m6, nI_add, vin_nI (show 18 * c + 6 * p + w < 72 by omega) (by decide), nI_clamp (show 18 * c + 6 * p + w < 2 ^ 31 by omega), m18, hn, st2_eq, cnt_M hb16]
