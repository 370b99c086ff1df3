/-! ===== what is agreed of the sensors; words are scrubbed ===== -/
theorem absd {x y : Int32} (hx : -32768 ≤ x.toInt ∧ x.toInt ≤ 32767) (hy : -32768 ≤ y.toInt ∧ y.toInt ≤ 32767) : (if 0 ≤ x - y then x - y else 0 - (x - y)) = gr (x - y) (y - x) := by
  have e1 : (x - y).toInt = x.toInt - y.toInt := fb_subI (by omega) (by omega)
  have e2 : (y - x).toInt = y.toInt - x.toInt := fb_subI (by omega) (by omega)
  have e0 : (0 : Int32).toInt = 0 := by decide
  have e3 : (0 - (x - y)).toInt = y.toInt - x.toInt := by
    rw [fb_subI (by rw [e0, e1]; omega) (by rw [e0, e1]; omega), e0, e1]
    omega
  apply i32_eq
  rw [gr_I, e1, e2]
  by_cases h : 0 ≤ x - y
  · rw [if_pos h, e1]
    rw [le_iff, e0, e1] at h
    rw [Int.max_eq_left (by omega)]
  · rw [if_neg h, e3]
    rw [le_iff, e0, e1] at h
    rw [Int.max_eq_right (by omega)]
theorem sens_T {σ μ : TS} (hT : InvT σ μ) {s : Nat} (hs : s < 4) : σ (66 + s) 0 = md (μ 25 (3 * s)) (μ 25 (3 * s + 1)) (μ 25 (3 * s + 2)) := i32_eq (by rw [md_I]; exact hT.1 s hs)
theorem agree_c {n N : Nat} {σ μ : TS} {s : Nat} (h : RI allS n N σ μ) (hs : s < 4) (K : Nat) : ∃ u v, sX7_agree s σ = some (0, u) ∧ sX9_agree_2 (K + 1) (nI s) μ = sX9_agree_2 K (nI (s + 1)) v ∧ RI allS n N u v ∧ (∀ k, k < 66 → u k = σ k) ∧ (∀ k, k ≠ 27 ∧ k ≠ 28 → v k = μ k) := by
  obtain ⟨hR, hI, hT⟩ := h
  have hB := ic_B hI
  have q0 := sens_T hT hs
  have q1 : σ (66 + s) 1 = 32767 - μ 26 s := (hR _ (tm_lim s hs) rfl).trans (tr_2 _)
  have q2 : σ (66 + s) 2 = μ 27 s := hR _ (tm_agr s hs) rfl
  have q3 : σ (66 + s) 3 = μ 28 s := hR _ (tm_ref s hs) rfl
  have hmd : -32768 ≤ (md (μ 25 (3 * s)) (μ 25 (3 * s + 1)) (μ 25 (3 * s + 2))).toInt ∧ (md (μ 25 (3 * s)) (μ 25 (3 * s + 1)) (μ 25 (3 * s + 2))).toInt ≤ 32767 := by
    rw [md_I]
    exact mid_rng (hB 25 (3 * s)) (hB 25 (3 * s + 1)) (hB 25 (3 * s + 2))
  have hM0 : sX9_agree_2 (K + 1) (nI s) μ = (if ((4 : Int32)) ≤ nI s then some (0, μ) else (if vin (nI s * ((3 : Int32))) 12 = true then (if vin ((nI s * ((3 : Int32))) + ((1 : Int32))) 12 = true then (if vin ((nI s * ((3 : Int32))) + ((2 : Int32))) 12 = true then ((sX9_middle (μ 25 ((nI s * ((3 : Int32))).toNatClampNeg)) (μ 25 (((nI s * ((3 : Int32))) + ((1 : Int32))).toNatClampNeg)) (μ 25 (((nI s * ((3 : Int32))) + ((2 : Int32))).toNatClampNeg)) μ).bind (fun z => sX9_agree_38 (sX9_agree_2 K) (nI s) z.1 z.2)) else none) else none) else none)) := rfl
  rw [hM0, if_neg (show ¬ (4 : Int32) ≤ nI s from nI_ge (b := 4) hs (by decide)), nI_m3, nI_1, nI_p2, if_pos (vin_nI (show 3 * s < 12 by omega) (by decide)), if_pos (vin_nI (show 3 * s + 1 < 12 by omega) (by decide)), if_pos (vin_nI (show 3 * s + 2 < 12 by omega) (by decide)), nI_clamp (show 3 * s < 2 ^ 31 by omega), nI_clamp (show 3 * s + 1 < 2 ^ 31 by omega), nI_clamp (show 3 * s + 2 < 2 ^ 31 by omega), m_middle, Option.bind_some]
  unfold sX9_agree_38
  simp only
  rw [if_pos (vin_nI hs (by decide)), nI_clamp (show s < 2 ^ 31 by omega), m_greater, Option.bind_some]
  unfold sX9_agree_58
  simp only
  rw [if_pos (vin_nI hs (by decide)), nI_clamp (show s < 2 ^ 31 by omega)]
  unfold sX7_agree sX7_agree_0
  rw [q0, q1, q2, absd hmd (hB 27 s)]
  generalize hw : md (μ 25 (3 * s)) (μ 25 (3 * s + 1)) (μ 25 (3 * s + 2)) = w at *
  have hup : ∀ x y : Int32, RS allS (st2 (st2 (st2 σ (66 + s) 3 x) (66 + s) 2 w) (66 + s) 3 y) (st2 (st2 (st2 μ 28 s x) 27 s w) 28 s y) := fun x y => rS_up (rS_up (rS_up hR (tm_ref s hs) rfl) (tm_agr s hs) rfl) (tm_ref s hs) rfl
  have hnorm : ∀ x y : Int32, st2 (st2 (st2 μ 28 s x) 27 s w) 28 s y = st2 (st2 μ 27 s w) 28 s y := fun x y => by rw [st2_comm μ x w (show ¬ (28 = 27 ∧ s = s) by omega), st2_twice]
  have hIn : IC n N (st2 (st2 μ 27 s w) 28 s 0) := ic_same hI rfl rfl rfl rfl rfl rfl rfl rfl rfl (ic_P hI).2.2 (iB_up (k := 28) (v := 0) (iB_up (k := 27) hB hmd) ⟨by decide, by decide⟩)
  have hTn : ∀ x y : Int32, InvT (st2 (st2 (st2 σ (66 + s) 3 x) (66 + s) 2 w) (66 + s) 3 y) (st2 (st2 μ 27 s w) 28 s y) := fun x y => it_same hT (fun k j hk => by unfold tieT at hk; rw [st2_off _ _ (by omega), st2_off _ _ (by omega), st2_off _ _ (by omega)]) rfl rfl rfl rfl rfl rfl
  -- taken, in the class and in the reference
  have t55 : ∀ x : Int32, sX7_agree_55 s (st2 σ (66 + s) 3 x) = some (0, st2 (st2 (st2 σ (66 + s) 3 x) (66 + s) 2 w) (66 + s) 3 0) := fun x => by
    unfold sX7_agree_55 sX7_agree_68
    rw [st2_nj σ x (show (0 : Nat) ≠ 3 by decide), q0]
  have m110 : ∀ x : Int32, sX9_agree_110 (sX9_agree_2 K) (nI s) w (st2 μ 28 s x) = sX9_agree_2 K (nI (s + 1)) (st2 (st2 μ 27 s w) 28 s 0) := fun x => by
    unfold sX9_agree_110 sX9_agree_124
    rw [if_pos (vin_nI hs (by decide)), nI_clamp (show s < 2 ^ 31 by omega), nI_1, hnorm]
  have hfin : ∀ x : Int32, RI allS n N (st2 (st2 (st2 σ (66 + s) 3 x) (66 + s) 2 w) (66 + s) 3 0) (st2 (st2 μ 27 s w) 28 s 0) := fun x => ⟨by rw [← hnorm x 0]; exact hup x 0, hIn, hTn x 0⟩
  by_cases hf : gr (w - μ 27 s) (μ 27 s - w) ≤ 32767 - μ 26 s
  · rw [if_pos hf, if_neg (by rw [lt_iff]; rw [le_iff] at hf; omega)]
    unfold sX7_agree_24 sX7_agree_40 sX9_agree_90
    rw [if_pos rfl, if_pos rfl, t55, if_pos (vin_nI hs (by decide)), if_pos (vin_nI hs (by decide)), nI_clamp (show s < 2 ^ 31 by omega), st2_eq, if_pos rfl, m110]
    exact ⟨_, _, rfl, rfl, hfin 0, fun k hk => by rw [st2_ne _ _ _ (by omega), st2_ne _ _ _ (by omega), st2_ne _ _ _ (by omega)], fun k hk => by rw [st2_ne _ _ _ hk.2, st2_ne _ _ _ hk.1]⟩
  · rw [if_neg hf, if_pos (by rw [lt_iff]; rw [le_iff] at hf; omega)]
    obtain ⟨r, hr, he⟩ := b_nI hB 28 s (n := 2) rfl
    unfold sX7_agree_24 sX7_agree_40 sX9_agree_90
    rw [if_neg (show ¬ (1 : Int32) = 0 by decide), if_neg (show ¬ (1 : Int32) = 0 by decide), q3, he, nI_1, st2_eq, t55, if_pos (vin_nI hs (by decide)), if_pos (vin_nI hs (by decide)), nI_clamp (show s < 2 ^ 31 by omega), st2_eq, if_neg (nI_ne0 (by omega) (by omega)), m110]
    by_cases h3 : r + 1 = 3
    · rw [h3, if_neg (show ¬ nI 3 < 3 by decide), if_pos (show nI 3 = (3 : Int32) from rfl)]
      exact ⟨_, _, rfl, rfl, hfin (nI 3), fun k hk => by rw [st2_ne _ _ _ (by omega), st2_ne _ _ _ (by omega), st2_ne _ _ _ (by omega)], fun k hk => by rw [st2_ne _ _ _ hk.2, st2_ne _ _ _ hk.1]⟩
    · rw [if_pos (show nI (r + 1) < (3 : Int32) from nI_lt (b := 3) (by omega) (by decide)), if_neg (show ¬ nI (r + 1) = (3 : Int32) from fun g => h3 ((nI_eq (b := 3) (by omega) (by decide)).mp g))]
      unfold sX7_agree_68 sX9_agree_124
      rw [nI_1]
      refine ⟨_, _, rfl, rfl, ⟨rS_up hR (tm_ref s hs) rfl, ic_same hI rfl rfl rfl rfl rfl rfl rfl rfl rfl (ic_P hI).2.2 (iB_up (k := 28) hB ?_), it_same hT (fun k j hk => ?_) rfl rfl rfl rfl rfl rfl⟩, fun k hk => st2_ne _ _ _ (by omega), fun k hk => st2_ne _ _ _ hk.2⟩
      · rw [nI_toInt (by omega)]
        show (0 : Int) ≤ _ ∧ _ ≤ (2 : Int)
        omega
      · unfold tieT at hk
        exact st2_off _ _ (by omega)
/-! the scrubber -/
theorem t_scr_def (K : Nat) (x a : Int32) (σ : TS) : sX8_scrub_12 (K + 1) x a σ = (if ((3 : Int32)) ≤ a then some (0, σ) else (if vin a 3 = true then (if (σ (15+6*(a.toNatClampNeg)) 6) = 0 then sX8_scrub_52 (sX8_scrub_12 K) x a σ else ((sX4_mend ((a.toNatClampNeg)) x σ).bind (fun z => sX8_scrub_42 (sX8_scrub_12 K) x a z.1 z.2))) else none)) := rfl
theorem m_68_def (K : Nat) (a : Int32) (μ : TS) : sX9_frame_68 (K + 1) a μ = (if ((3 : Int32)) ≤ a then ((sX9_keepClocks μ).bind (fun z => sX9_frame_105 z.2)) else (if vin a 4 = true then (if (μ 10 (a.toNatClampNeg)) = 0 then ((sX9_mends a ((μ 0 1) - (μ 0 1) / ((18 : Int32)) * ((18 : Int32))) μ).bind (fun z => sX9_frame_94 (sX9_frame_68 K) a z.1 z.2)) else sX9_frame_95 (sX9_frame_68 K) a μ) else none)) := rfl
theorem mdd_fr (c i : Nat) (μ : TS) {k : Nat} (h : k ≠ 16 ∧ k ≠ 7) : mdd c i μ k = μ k := by
  unfold mdd
  rw [st2_ne _ _ _ h.2, st2_ne _ _ _ h.1]
theorem scr_c {n N : Nat} {σ μ : TS} {c τ : Nat} (h : RI allS n N σ μ) (hsk : SK μ) (hc : c < 3) (hτ : τ < 2000) (h01 : μ 0 1 = nI τ) (K K2 : Nat) : ∃ u v, sX8_scrub_12 (K + 1) (nI (τ % 18)) (nI c) σ = sX8_scrub_12 K (nI (τ % 18)) (nI (c + 1)) u ∧ sX9_frame_68 (K2 + 1) (nI c) μ = sX9_frame_68 K2 (nI (c + 1)) v ∧ RI allS n N u v ∧ SK v ∧ v 0 1 = nI τ ∧ u 0 = σ 0 ∧ (FQ μ → FQ v) := by
  obtain ⟨hR, hI, hT⟩ := h
  have hB := ic_B hI
  have t6 := on_T hR hI (c := c) rfl (show c < 4 by omega)
  have hi : τ % 18 < 18 := Nat.mod_lt _ (by decide)
  rw [t_scr_def, m_68_def, if_neg (show ¬ (3 : Int32) ≤ nI c from nI_ge (b := 3) hc (by decide)), if_neg (show ¬ (3 : Int32) ≤ nI c from nI_ge (b := 3) hc (by decide)), if_pos (vin_nI hc (by decide)), if_pos (vin_nI (show c < 4 by omega) (by decide)), nI_clamp (show c < 2 ^ 31 by omega), h01, nI_r18 (show τ < 2 ^ 31 by omega)]
  by_cases h10 : μ 10 c = 0
  · rw [if_neg (fun h => t6.mp h h10), if_pos h10]
    have f18 : σ (18 + 6 * c) (τ % 18) = μ 7 (18 * c + τ % 18) := hR _ (tm_fl c (by omega) _ hi) rfl
    by_cases hk : cntb (μ 7 (18 * c + τ % 18)) ≤ 1
    · rw [t_mend_ok c hi (by rw [f18]; exact hB 7 _) (by rw [f18]; exact hk), m_mends_ok (show c < 4 by omega) hi (hB 7 _) hk, Option.bind_some, Option.bind_some]
      unfold sX8_scrub_42 sX8_scrub_52 sX9_frame_94 sX9_frame_95
      dsimp only
      rw [if_neg (show ¬ (1 : Int32) = 0 by decide), nI_1]
      refine ⟨tdd c (τ % 18) σ, mdd c (τ % 18) μ, rfl, rfl, ⟨rS_dd hR rfl (by omega) hi, ?_, ?_⟩, ?_, h01, ?_, fun hF => ?_⟩
      · refine ic_same hI rfl rfl rfl rfl rfl rfl rfl rfl rfl (fun i hi => ?_) ?_
        · unfold mdd
          rw [st2_nj _ _ (by omega)]
          exact (ic_P hI).2.2 i hi
        · unfold mdd
          exact iB_up (k := 7) (v := 0) (iB_up (k := 16) hB (i32_any _)) ⟨by decide, by decide⟩
      · refine it_same hT (fun k j hk => ?_) rfl rfl rfl rfl rfl rfl
        unfold tieT at hk
        unfold tdd
        rw [st2_off _ _ (by omega), st2_off _ _ (by omega)]
      · unfold SK
        rw [mdd_fr _ _ _ (by decide), mdd_fr _ _ _ (by decide)]
        exact hsk
      · unfold tdd
        rw [st2_ne _ _ _ (by omega), st2_ne _ _ _ (by omega)]
      · have h7 : μ 7 (18 * c + τ % 18) = 0 := hF.2.2.2.2.1.2.1 _
        have e : mdd c (τ % 18) μ = μ := by
          unfold mdd
          rw [h7, cnt_z, nI_0, a0, st2_same (σ := μ) rfl, st2_same h7]
        rw [e]
        exact hF
    · obtain ⟨a, ha, h43, hav, hcl⟩ := tot_nI hI
      rw [t_mend_bad c hi (by rw [f18]; exact hB 7 _) (by rw [f18]; exact hk), m_mends_bad (show c < 4 by omega) hi (hB 7 _) hk, m_off 109 (show c < 4 by omega) ha h43, Option.bind_some, Option.bind_some, Option.bind_some]
      unfold sX8_scrub_42 sX8_scrub_52 sX9_frame_94 sX9_frame_95
      dsimp only
      rw [if_pos rfl, t_off hc rfl ha (tot_T hR rfl h43), Option.bind_some, nI_1]
      refine ⟨_, _, rfl, rfl, ⟨rS_off hR rfl hc 109, ic_off hI hc h10 (by decide), it_off hT hc 109⟩, sk_off hsk c 109, ?_, off_fr c 109 σ (k := 0) (by omega), fun hF => ?_⟩
      · unfold offM logM
        rw [st2_nj _ _ (show (1 : Nat) ≠ 43 by decide)]
        exact h01
      · exfalso
        rw [hF.2.2.2.2.1.2.1, cnt_z] at hk
        exact hk (by decide)
  · rw [if_pos (t6.mpr h10), if_neg h10]
    unfold sX8_scrub_52 sX9_frame_95
    rw [nI_1]
    exact ⟨σ, μ, rfl, rfl, ⟨hR, hI, hT⟩, hsk, h01, rfl, id⟩
