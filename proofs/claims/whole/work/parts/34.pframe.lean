/-! ===== a frame, tied ===== -/
theorem slots_i {n N : Nat} {σ μ : TS} {i m : Nat} (h : RI allS n N σ μ) (hsk : SK μ) (hi : i < 3) (hm : m < 2) (h11 : σ 0 11 = nI m) (K K2 : Nat) : ∃ u v, sX8_frame_46 (K + 1) (nI i) σ = sX8_frame_46 K (nI (i + 1)) u ∧ sX9_frame_26 (K2 + 1) (nI m) (nI i) μ = sX9_frame_26 K2 (nI m) (nI (i + 1)) v ∧ RI allS n N u v ∧ SK v ∧ u 0 = σ 0 ∧ (FQ μ → FQ v) := by
  have hR := h.1
  have q : σ (3 + m) i = μ 5 (3 * m + i) - 1 := hR _ (tm_slots m hm i hi) rfl
  obtain ⟨a, ha, he⟩ := b_nI (ic_B h.2.1) 5 (3 * m + i) (n := 3) rfl
  have tdef : sX8_frame_46 (K + 1) (nI i) σ = (if ((3 : Int32)) ≤ nI i then ((sX8_scrub σ).bind (fun z => sX8_frame_83 z.2)) else (if vin (σ 0 11) 2 = true then (if vin (nI i) 3 = true then (if (σ (3+((σ 0 11).toNatClampNeg)) ((nI i).toNatClampNeg)) = ((-1 : Int32)) then sX8_frame_73 (sX8_frame_46 K) (nI i) σ else ((sX8_runSlot (σ (3+((σ 0 11).toNatClampNeg)) ((nI i).toNatClampNeg)) σ).bind (fun z => sX8_frame_73 (sX8_frame_46 K) (nI i) z.2))) else none) else none)) := rfl
  have mdef : sX9_frame_26 (K2 + 1) (nI m) (nI i) μ = (if ((3 : Int32)) ≤ nI i then sX9_frame_68 4 ((0 : Int32)) μ else (if vin ((nI m * ((3 : Int32))) + nI i) 6 = true then (if (μ 5 (((nI m * ((3 : Int32))) + nI i).toNatClampNeg)) ≤ 0 then sX9_frame_60 (sX9_frame_26 K2) (nI m) (nI i) μ else ((sX9_run ((μ 5 (((nI m * ((3 : Int32))) + nI i).toNatClampNeg)) - ((1 : Int32))) μ).bind (fun z => sX9_frame_60 (sX9_frame_26 K2) (nI m) (nI i) z.2))) else none)) := rfl
  rw [tdef, mdef, if_neg (show ¬ (3 : Int32) ≤ nI i from nI_ge (b := 3) hi (by decide)), if_neg (show ¬ (3 : Int32) ≤ nI i from nI_ge (b := 3) hi (by decide)), h11, nI_m3, nI_add, if_pos (vin_nI hm (by decide)), if_pos (vin_nI hi (by decide)), if_pos (vin_nI (show 3 * m + i < 6 by omega) (by decide)), nI_clamp (show m < 2 ^ 31 by omega), nI_clamp (show i < 2 ^ 31 by omega), nI_clamp (show 3 * m + i < 2 ^ 31 by omega), q, he]
  unfold sX8_frame_73 sX9_frame_60
  by_cases ha0 : a = 0
  · subst ha0
    rw [if_pos (show nI 0 - 1 = -1 from rfl), if_pos (show nI 0 ≤ 0 by decide), nI_1]
    exact ⟨σ, μ, rfl, rfl, h, hsk, rfl, id⟩
  · obtain ⟨p, rfl⟩ : ∃ p, a = p + 1 := ⟨a - 1, by omega⟩
    obtain ⟨u, v, g1, g2, g3, g4, g5⟩ := slot_run (p := p) (by omega) h hsk
    rw [nI_pred, if_neg (nI_ne_m1 (by omega)), if_neg (nI_nle (by omega) (by omega)), g1, g2, Option.bind_some, Option.bind_some, nI_1]
    exact ⟨u, v, rfl, rfl, g3, g4, g5, fun hF => slot_F (by omega) hF g2⟩
theorem sk_fr {μ v : TS} (h : SK μ) (h10 : v 10 = μ 10) (h12 : v 12 = μ 12) : SK v := by
  unfold SK
  rw [h10, h12]
  exact h
theorem agree_all {n N : Nat} {σ μ : TS} (h : RI allS n N σ μ) (hsk : SK μ) : ∃ u v, sX8_frame_22 σ = sX8_frame_46 4 (nI 0) u ∧ sX9_agree μ = some (0, v) ∧ RI allS n N u v ∧ SK v ∧ u 0 = σ 0 ∧ (FQ μ → FQ v) := by
  have ts : ∀ K s (ν u : TS), s < 4 → sX7_agree s ν = some (0, u) → sX8_frame_24 (K + 1) (nI s) ν = sX8_frame_24 K (nI (s + 1)) u := fun K s ν u hs hu => by
    have h0 : sX8_frame_24 (K + 1) (nI s) ν = (if ((4 : Int32)) ≤ nI s then sX8_frame_46 4 ((0 : Int32)) ν else (if vin (nI s) 4 = true then ((sX7_agree ((nI s).toNatClampNeg) ν).bind (fun z => sX8_frame_38 (sX8_frame_24 K) (nI s) z.2)) else none)) := rfl
    rw [h0, if_neg (show ¬ (4 : Int32) ≤ nI s from nI_ge (b := 4) hs (by decide)), if_pos (vin_nI hs (by decide)), nI_clamp (show s < 2 ^ 31 by omega), hu, Option.bind_some]
    unfold sX8_frame_38
    rw [nI_1]
  obtain ⟨u0, v0, a0', b0, r0, f0, g0⟩ := agree_c h (show 0 < 4 by decide) 4
  obtain ⟨u1, v1, a1, b1, r1, f1, g1⟩ := agree_c r0 (show 1 < 4 by decide) 3
  obtain ⟨u2, v2, a2, b2, r2, f2, g2⟩ := agree_c r1 (show 2 < 4 by decide) 2
  obtain ⟨u3, v3, a3, b3, r3, f3, g3⟩ := agree_c r2 (show 3 < 4 by decide) 1
  refine ⟨u3, v3, ?_, ?_, r3, sk_fr hsk (by rw [g3 10 (by decide), g2 10 (by decide), g1 10 (by decide), g0 10 (by decide)]) (by rw [g3 12 (by decide), g2 12 (by decide), g1 12 (by decide), g0 12 (by decide)]), by rw [f3 0 (by decide), f2 0 (by decide), f1 0 (by decide), f0 0 (by decide)], fun hF => fq_fr hF (ic_B r3.2.1) (fun k hk => by rw [g3 k (by omega), g2 k (by omega), g1 k (by omega), g0 k (by omega)])⟩
  · have h0 : sX8_frame_22 σ = sX8_frame_24 5 (nI 0) σ := rfl
    have h1 : sX8_frame_24 1 (nI (3 + 1)) u3 = sX8_frame_46 4 (nI 0) u3 := if_pos (show (4 : Int32) ≤ nI (3 + 1) by decide)
    rw [h0, ts 4 0 _ _ (by decide) a0', ts 3 1 _ _ (by decide) a1, ts 2 2 _ _ (by decide) a2, ts 1 3 _ _ (by decide) a3, h1]
  · have h0 : sX9_agree μ = sX9_agree_2 5 (nI 0) μ := rfl
    have h1 : sX9_agree_2 1 (nI (3 + 1)) v3 = some (0, v3) := if_pos (show (4 : Int32) ≤ nI (3 + 1) by decide)
    rw [h0, b0, b1, b2, b3, h1]
/-- all behind the agreeing -/
theorem tail_all {n N : Nat} {σ μ : TS} (h : RI allS n N σ μ) (hsk : SK μ) (hn : n ≤ 600) : ∃ bb u v, sX8_frame_46 4 (nI 0) σ = some (bb, u) ∧ sX9_frame_19 μ = some (bb, v) ∧ RI allS (n + 1) N u v ∧ SK v ∧ u 0 = σ 0 ∧ (FQ μ → FQ v) := by
  obtain ⟨m, hm, h02⟩ : ∃ m, m < 2 ∧ μ 0 2 = nI m := by
    rcases h.2.1.2.2.1 with h0 | h0
    · exact ⟨0, by decide, h0⟩
    · exact ⟨1, by decide, h0⟩
  have h11 : σ 0 11 = nI m := (h.1 _ tm_mode rfl : σ 0 11 = μ 0 2).trans h02
  obtain ⟨u0, v0, a0', b0, r0, s0, f0, F0⟩ := slots_i h hsk (show 0 < 3 by decide) hm h11 3 3
  obtain ⟨u1, v1, a1, b1, r1, s1, f1, F1⟩ := slots_i r0 s0 (show 1 < 3 by decide) hm (by rw [f0]; exact h11) 2 2
  obtain ⟨u2, v2, a2, b2, r2, s2, f2, F2⟩ := slots_i r1 s1 (show 2 < 3 by decide) hm (by rw [f1, f0]; exact h11) 1 1
  obtain ⟨τ, hτ, hτe⟩ : ∃ τ : Nat, τ < 2000 ∧ v2 0 1 = nI τ := by
    obtain ⟨τ, h1, h2⟩ := i32_nI (n := 1000) r2.2.1.2.1.1 r2.2.1.2.1.2
    exact ⟨τ, by omega, h2⟩
  have hτT : u2 0 10 = nI τ := (r2.1 _ tm_time rfl : u2 0 10 = v2 0 1).trans hτe
  obtain ⟨u3, v3, a3, b3, r3, s3, t3, f3, F3⟩ := scr_c r2 s2 (show 0 < 3 by decide) hτ hτe 3 3
  obtain ⟨u4, v4, a4, b4, r4, s4, t4, f4, F4⟩ := scr_c r3 s3 (show 1 < 3 by decide) hτ t3 2 2
  obtain ⟨u5, v5, a5, b5, r5, s5, t5, f5, F5⟩ := scr_c r4 s4 (show 2 < 3 by decide) hτ t4 1 1
  obtain ⟨u6, v6, a6, b6, r6, s6, f6, k6⟩ := clocks r5 s5 hn
  obtain ⟨u7, v7, a7, b7, r7, s7, f7, k7⟩ := steer_c r6 s6 (show 0 < 4 by decide) 4 4
  obtain ⟨u8, v8, a8, b8, r8, s8, f8, k8⟩ := steer_c r7 s7 (show 1 < 4 by decide) 3 3
  obtain ⟨u9, v9, a9, b9, r9, s9, f9, k9⟩ := steer_c r8 s8 (show 2 < 4 by decide) 2 2
  obtain ⟨u, v, ax, bx, rx, sx, fx, kx⟩ := steer_c r9 s9 (show 3 < 4 by decide) 1 1
  refine ⟨nI (nOn v), u, v, ?_, ?_, rx, sx, by rw [fx, f9, f8, f7, f6, f5, f4, f3, f2, f1, f0], fun hF => fq_fr (F5 (F4 (F3 (F2 (F1 (F0 hF)))))) (ic_B rx.2.1) (fun k hk => by rw [kx k (by omega) (by omega), k9 k (by omega) (by omega), k8 k (by omega) (by omega), k7 k (by omega) (by omega), k6 k (by omega) (by omega)])⟩
  · have e1 : sX8_frame_46 1 (nI (2 + 1)) u2 = ((sX8_scrub u2).bind (fun z => sX8_frame_83 z.2)) := if_pos (show (3 : Int32) ≤ nI (2 + 1) by decide)
    have e2 : sX8_scrub u2 = sX8_scrub_12 4 (nI (τ % 18)) (nI 0) u2 := by
      show ((sJ9_floorMod_7cf53 (u2 0 10) (18 : Int32) u2).bind (fun z => sX8_scrub_9 z.1 z.2)) = _
      rw [hτT, fm_18 u2 (show τ < 2 ^ 31 by omega)]
      rfl
    have e3 : sX8_scrub_12 1 (nI (τ % 18)) (nI (2 + 1)) u5 = some (0, u5) := if_pos (show (3 : Int32) ≤ nI (2 + 1) by decide)
    have e4 : sX8_frame_83 u5 = ((sX8_tickClocks u5).bind (fun z => sX8_frame_87 z.2)) := rfl
    have e5 : sX8_frame_99 u6 = sX8_frame_101 5 (nI 0) u6 := rfl
    have e6 : sX8_frame_101 1 (nI (3 + 1)) u = ((sX8_countOn u).bind (fun z => sX8_frame_131 z.1 z.2)) := if_pos (show (4 : Int32) ≤ nI (3 + 1) by decide)
    rw [a0', a1, a2, e1, e2, a3, a4, a5, e3, Option.bind_some, e4, a6, e5, a7, a8, a9, ax, e6, t_on (fun c hc => on_T rx.1 rx.2.1 rfl (by omega)), Option.bind_some]
    rfl
  · have e0 : sX9_frame_19 μ = sX9_frame_26 4 (μ 0 2) (nI 0) μ := rfl
    have e1 : sX9_frame_26 1 (nI m) (nI (2 + 1)) v2 = sX9_frame_68 4 (nI 0) v2 := if_pos (show (3 : Int32) ≤ nI (2 + 1) by decide)
    have e2 : sX9_frame_68 1 (nI (2 + 1)) v5 = ((sX9_keepClocks v5).bind (fun z => sX9_frame_105 z.2)) := if_pos (show (3 : Int32) ≤ nI (2 + 1) by decide)
    have e3 : sX9_frame_105 v6 = ((sX9_steer v6).bind (fun z => sX9_frame_109 z.2)) := rfl
    have e4 : sX9_steer v6 = sX9_steer_2 5 (nI 0) v6 := rfl
    have e5 : sX9_steer_2 1 (nI (3 + 1)) v = some (0, v) := if_pos (show (4 : Int32) ≤ nI (3 + 1) by decide)
    have e6 : sX9_frame_109 v = ((sX9_on v).bind (fun z => sX9_frame_113 z.1 z.2)) := rfl
    rw [e0, h02, b0, b1, b2, e1, b3, b4, b5, e2, b6, Option.bind_some, e3, e4, b7, b8, b9, bx, e5, Option.bind_some, e6, m_on, Option.bind_some]
    rfl
theorem onc_3 (μ : TS) : 0 ≤ onc μ ∧ onc μ ≤ 3 := by
  have h0 := onz_rng (μ 10 0)
  have h1 := onz_rng (μ 10 1)
  have h2 := onz_rng (μ 10 2)
  unfold onc
  omega
theorem onT_15 : onT 0 15 = false := by decide +kernel
/-- the reference as a frame begins -/
def m0 (μ : TS) : TS := st2 (st2 μ 0 0 0) 0 1 (μ 0 1 + 1)
theorem frame_lock {j : Nat} {σ μ : TS} (h : Rel j σ μ) (hj : j < 512) : ∃ bb u v, sX8_frame σ = some (bb, u) ∧ sX9_frame μ = some (bb, v) ∧ RI allS (j + 1) (3 * j + 3) u v ∧ SK v ∧ u 0 14 = σ 0 14 ∧ (u 0 15 = 0 → σ 0 15 = 0 ∧ nOn μ ≠ 0) ∧ (v 0 1).toInt = (μ 0 1).toInt + 1 ∧ (FQ μ → FQ v) := by
  obtain ⟨h1, h2, ⟨m1, m2, m3, m4, m5, m6, m7, m8⟩, h4, h5, h6⟩ := h
  have ht : (μ 0 1 + 1).toInt = (μ 0 1).toInt + 1 := by
    have e1 : (1 : Int32).toInt = 1 := by decide
    rw [fb_addI (by rw [e1]; omega) (by rw [e1]; omega), e1]
  have hoc := onc_3 μ
  have hIC : IC j (3 * j + 3) (m0 μ) := by
    refine ⟨m1, ?_, m3, ⟨m4.1, ?_, by omega⟩, m5, m6, m8, h6, iB_up (k := 0) (iB_up (k := 0) h2 (i32_any _)) (i32_any _)⟩
    · show 0 ≤ (μ 0 1 + 1).toInt ∧ (μ 0 1 + 1).toInt ≤ 1000
      omega
    · show (μ 0 43).toInt + onc μ ≤ _
      omega
  have hsk : SK (m0 μ) := m7
  have hgt : σ 0 10 = μ 0 1 := h1 _ tm_time
  have hR0 : RS allS (st2 σ 0 10 (σ 0 10 + 1)) (m0 μ) := rS_up (rS_M (rS_all.mpr h1) onM00 0) tm_time (by rw [hgt]; rfl)
  have hT0 : InvT (st2 σ 0 10 (σ 0 10 + 1)) μ := iT_T h4 _ (by unfold tieT; omega)
  have hT0' : InvT (st2 σ 0 10 (σ 0 10 + 1)) (m0 μ) := hT0
  have hno : sX8_countOn (st2 σ 0 10 (σ 0 10 + 1)) = some (nI (nOn μ), st2 σ 0 10 (σ 0 10 + 1)) := t_on (μ := m0 μ) (fun c hc => on_T hR0 hIC rfl (by omega))
  have hn3 := nOn_3 μ
  have hM : sX9_frame μ = (sX9_agree (m0 μ)).bind (fun z => sX9_frame_19 z.2) := rfl
  have hT : sX8_frame σ = (sX8_countOn (st2 σ 0 10 (σ 0 10 + 1))).bind (fun z => sX8_frame_14 z.1 z.2) := rfl
  have key : ∀ σ1 : TS, RI allS j (3 * j + 3) σ1 (m0 μ) → ∃ bb u v, sX8_frame_22 σ1 = some (bb, u) ∧ sX9_frame μ = some (bb, v) ∧ RI allS (j + 1) (3 * j + 3) u v ∧ SK v ∧ u 0 = σ1 0 ∧ (FQ μ → FQ v) := fun σ1 r1 => by
    obtain ⟨u1, v1, a1, b1, r2, s2, f2, F2⟩ := agree_all r1 hsk
    obtain ⟨bb, u, v, a2, b2, r3, s3, f3, F3⟩ := tail_all r2 s2 (by omega)
    exact ⟨bb, u, v, by rw [a1, a2], by rw [hM, b1, Option.bind_some, b2], r3, s3, by rw [f3, f2], fun hF => F3 (F2 (fq_fr hF (ic_B hIC) (fun k hk => by unfold m0; rw [st2_ne _ _ _ (by omega), st2_ne _ _ _ (by omega)])))⟩
  have hvt : ∀ (u v : TS) (σ1 : TS), RI allS (j + 1) (3 * j + 3) u v → u 0 = σ1 0 → σ1 0 10 = σ 0 10 + 1 → (v 0 1).toInt = (μ 0 1).toInt + 1 := fun u v σ1 r f e => by
    have g : u 0 10 = v 0 1 := r.1 _ tm_time rfl
    rw [← g, f, e, hgt, ht]
  by_cases h0 : nOn μ = 0
  · have hT1 : InvT (st2 (st2 σ 0 10 (σ 0 10 + 1)) 0 15 1) (m0 μ) := by
      obtain ⟨q1, q2, q3, q4⟩ := hT0'
      refine ⟨fun s hs => ?_, q2, fun c hc h10 => ?_, fun p hp i hi h32 w hw => ?_⟩
      · rw [st2_ne _ _ _ (by omega)]
        exact q1 s hs
      · rw [st2_ne _ _ _ (by omega)]
        exact q3 c hc h10
      · rw [st2_ne _ _ _ (by omega)]
        exact q4 p hp i hi h32 w hw
    obtain ⟨bb, u, v, a, b, r, s, f, fF⟩ := key _ ⟨rS_T hR0 onT_15 1, hIC, hT1⟩
    refine ⟨bb, u, v, ?_, b, r, s, by rw [f]; rfl, fun hu => ?_, hvt u v _ r f rfl, fF⟩
    · rw [hT, hno, Option.bind_some]
      unfold sX8_frame_14
      rw [h0, if_pos (show nI 0 = 0 from rfl), a]
    · rw [f] at hu
      have hu1 : (1 : Int32) = 0 := hu
      exact absurd hu1 (by decide)
  · obtain ⟨bb, u, v, a, b, r, s, f, fF⟩ := key _ ⟨hR0, hIC, hT0'⟩
    refine ⟨bb, u, v, ?_, b, r, s, by rw [f]; rfl, fun hu => ?_, hvt u v _ r f rfl, fF⟩
    · rw [hT, hno, Option.bind_some]
      unfold sX8_frame_14
      rw [if_neg (nI_ne0 (by omega) (by omega)), a]
    · rw [f] at hu
      exact ⟨hu, h0⟩
