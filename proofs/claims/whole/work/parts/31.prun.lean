/-! ===== a slot ===== -/
theorem tab_20 : ∀ e ∈ tabL, e.2.2.1 ≠ 20 := by decide +kernel
theorem m_does_dn {μ : TS} (hB : InvB μ) {p c : Nat} (hc : c < 4) (hp : p < 3) (h : dn μ p c = true) : sX9_does (nI c) (nI p) μ = some (0, st2 μ 20 c 0) := by
  by_cases h10 : μ 10 c = 0
  · obtain ⟨t, ht, h9⟩ := b_nI hB 9 c (n := 10) rfl
    obtain ⟨s, hs, h4⟩ := b_nI hB 4 p (n := 10) rfl
    have hd : ¬ t < s := fun hd => by
      unfold dn at h
      rw [decide_eq_true h10, h9, h4, decide_eq_true (nI_lt hd (by omega))] at h
      exact absurd h (by decide)
    exact m_does_done hc hp h10 h9 h4 (by omega) (by omega) hd
  · exact m_does_off _ hc h10
theorem ri_20 {n N : Nat} {u v w : TS} (h : RI allS n N u v) (hI : IC n N w) (e : ∀ k, k ≠ 20 → v k = w k) : RI allS n N u w := by
  obtain ⟨h1, h2, h3⟩ := h
  refine ⟨fun f hf hS => ?_, hI, it_same h3 (fun _ _ _ => rfl) (e 0 (by decide)).symm (e 10 (by decide)).symm (e 11 (by decide)).symm (e 25 (by decide)).symm (e 30 (by decide)).symm (e 32 (by decide)).symm⟩
  rw [← e _ (tab_20 f hf)]
  exact h1 f hf hS
theorem m_60 (K20 : Int32 → Int32 → TS → Option (Int32 × TS)) {p : Nat} (hp : p < 3) (b : Int32) (μ : TS) : sX9_run_60 K20 (nI p) b μ = if aD μ p = true then K20 (nI p) (b + 1) μ else ((sX9_does (nI 0) (nI p) μ).bind (fun z => sX9_run_74 K20 (nI p) b z.2)) := by
  unfold sX9_run_60
  rw [m_aD μ hp, Option.bind_some]
  unfold sX9_run_65 sX9_run_90
  by_cases h : aD μ p = true
  · rw [if_pos h, if_pos h, if_neg (show ¬ (1 : Int32) = 0 by decide)]
  · rw [if_neg h, if_neg h, if_pos rfl]
    rfl
theorem aD_hM {μ m1 : TS} {p : Nat} (h : ∀ k j, ¬ ownM 3 k j → k ≠ 23 → hM m1 k j = μ k j) : aD (hM m1) p = aD μ p := by
  unfold aD dn
  rw [h 10 0 (by unfold ownM; omega) (by decide), h 10 1 (by unfold ownM; omega) (by decide), h 10 2 (by unfold ownM; omega) (by decide), h 9 0 (by unfold ownM; omega) (by decide), h 9 1 (by unfold ownM; omega) (by decide), h 9 2 (by unfold ownM; omega) (by decide), h 4 p (by unfold ownM; omega) (by decide)]
theorem beat {n N : Nat} {σ μ : TS} {p : Nat} (h : RI allS n N σ μ) (hsk : SK μ) (hp : p < 3) (KT : Nat → Int32 → Int32 → TS → Option (Int32 × TS)) (KM : Int32 → Int32 → TS → Option (Int32 × TS)) (b : Nat) :
    ∃ u v, ((sX8_doInstructions p (nI p) σ).bind (fun z => sX8_runSlot_58 KT p (nI p) (nI b) z.2)) = KT p (nI p) (nI (b + 1)) u ∧ ((sX9_does (nI 3) (nI p) μ).bind (fun z => sX9_run_32 KM (nI p) (nI b) z.2)) = KM (nI p) (nI (b + 1)) v ∧ RI allS n N u v ∧ SK v ∧ u 0 = σ 0 := by
  obtain ⟨u, m1, v0, v1, v, a, b1, B1, c0, c1, c2, R, s, g, f, o, I1⟩ := doAll h hsk hp
  obtain ⟨u2, w, d1, d2, R2, F2, G2⟩ := vote_m R s (fun _ _ => rfl) g
  obtain ⟨u3, v3, e1, e2, R3, s3, F3, G3⟩ := struck R2 (fun _ _ => rfl) rfl
  have hT : ((sX8_doInstructions p (nI p) σ).bind (fun z => sX8_runSlot_58 KT p (nI p) (nI b) z.2)) = KT p (nI p) (nI (b + 1)) u3 := by
    rw [a, Option.bind_some]
    unfold sX8_runSlot_58
    rw [d1, Option.bind_some]
    unfold sX8_runSlot_62
    rw [e1, Option.bind_some]
    unfold sX8_runSlot_66
    rw [nI_1]
  have hu : u3 0 = σ 0 := by rw [F3 0 (by decide), F2 0 (by decide), f]
  by_cases hd : aD (hM m1) p = true
  · refine ⟨u3, hM m1, hT, ?_, ?_, ?_, hu⟩
    · rw [b1, Option.bind_some, m_32 B1, m_60 _ hp, if_pos hd, nI_1]
    · have hd' := hd
      unfold aD at hd'
      simp only [Bool.and_eq_true] at hd'
      obtain ⟨⟨q0, q1⟩, q2⟩ := hd'
      have z0 : v0 = st2 (hM m1) 20 0 0 := congrArg Prod.snd (Option.some.inj (c0.symm.trans (m_does_dn (ic_B I1) (by decide) hp q0)))
      subst z0
      have z1 : v1 = st2 (st2 (hM m1) 20 0 0) 20 1 0 := congrArg Prod.snd (Option.some.inj (c1.symm.trans (m_does_dn (μ := st2 (hM m1) 20 0 0) (iB_up (k := 20) (v := 0) (ic_B I1) ⟨by decide, by decide⟩) (by decide) hp q1)))
      subst z1
      have z2 : v = st2 (st2 (st2 (hM m1) 20 0 0) 20 1 0) 20 2 0 := congrArg Prod.snd (Option.some.inj (c2.symm.trans (m_does_dn (μ := st2 (st2 (hM m1) 20 0 0) 20 1 0) (iB_up (k := 20) (v := 0) (iB_up (k := 20) (v := 0) (ic_B I1) ⟨by decide, by decide⟩) ⟨by decide, by decide⟩) (by decide) hp q2)))
      have h20 : ∀ c, c < 3 → v 20 c = 0 := fun c hc => by
        rw [z2]
        rcases (show c = 0 ∨ c = 1 ∨ c = 2 by omega) with rfl | rfl | rfl <;> rfl
      have hl : ∀ c d, c < 3 → d < 3 → v 10 c = 0 → v 10 d = 0 → lb v c d = true := fun c d hc hd _ _ => decide_eq_true ⟨(h20 c hc).trans (h20 d hd).symm, Or.inl (h20 c hc)⟩
      have hno : sX9_vote v = some (0, v) := by
        obtain ⟨l1, l2⟩ := m_vlike (ic_B R.2.1) s hl
        by_cases k0 : v 10 0 = 0
        · rw [l1 0 (by decide) k0, if_pos (h20 0 (by decide))]
        · by_cases k1 : v 10 1 = 0
          · rw [l1 1 (by decide) k1, if_pos (h20 1 (by decide))]
          · by_cases k2 : v 10 2 = 0
            · rw [l1 2 (by decide) k2, if_pos (h20 2 (by decide))]
            · exact l2 (fun c hc => by rcases (show c = 0 ∨ c = 1 ∨ c = 2 by omega) with rfl | rfl | rfl <;> assumption)
      have hv3 : v3 = v := congrArg Prod.snd (Option.some.inj (((d2.trans e2).symm).trans hno))
      rw [hv3] at R3
      exact ri_20 R3 I1 (fun k hk => by rw [z2, st2_ne _ _ _ hk, st2_ne _ _ _ hk, st2_ne _ _ _ hk])
    · have e10 : hM m1 10 = μ 10 := funext fun j => o 10 j (by unfold ownM; omega) (by decide)
      have e12 : hM m1 12 = μ 12 := funext fun j => o 12 j (by unfold ownM; omega) (by decide)
      unfold SK
      rw [e10, e12]
      exact hsk
  · refine ⟨u3, v3, hT, ?_, R3, s3, hu⟩
    rw [b1, Option.bind_some, m_32 B1, m_60 _ hp, if_neg hd, c0, Option.bind_some]
    unfold sX9_run_74
    rw [show (1 : Int32) = nI 1 from rfl, c1, Option.bind_some]
    unfold sX9_run_80
    rw [show (2 : Int32) = nI 2 from rfl, c2, Option.bind_some]
    unfold sX9_run_86
    rw [d2, e2, Option.bind_some]
    unfold sX9_run_90
    rw [nI_1]
theorem m_20_def (K : Nat) (a b : Int32) (μ : TS) : sX9_run_20 (K + 1) a b μ = (if ((30 : Int32)) ≤ b then (if vin a 3 = true then ((sX9_areDone a μ).bind (fun z => sX9_run_108 a (μ 24 (a.toNatClampNeg)) z.1 z.2)) else none) else ((sX9_does ((3 : Int32)) a μ).bind (fun z => sX9_run_32 (sX9_run_20 K) a b z.2))) := rfl
theorem t_38_def (K p : Nat) (a b : Int32) (σ : TS) : sX8_runSlot_38 (K + 1) p a b σ = (if ((30 : Int32)) ≤ b then sX8_runSlot_72 p σ else ((sX8_isAnyLeft p σ).bind (fun z => sX8_runSlot_49 (sX8_runSlot_38 K) p a b z.1 z.2))) := rfl
theorem m_fin {p : Nat} (hp : p < 3) (K : Nat) (μ : TS) : sX9_run_20 (K + 1) (nI p) (nI 30) μ = some (0, if aD μ p = true then μ else st2 μ 24 p (μ 24 p + 1)) := by
  rw [m_20_def, if_pos (show (30 : Int32) ≤ nI 30 by decide), if_pos (vin_nI hp (by decide)), m_aD μ hp, Option.bind_some, nI_clamp (show p < 2 ^ 31 by omega)]
  unfold sX9_run_108 sX9_run_116
  by_cases h : aD μ p = true
  · rw [if_pos h, if_pos h, if_neg (show ¬ (1 : Int32) = 0 by decide), if_pos (vin_nI hp (by decide)), nI_clamp (show p < 2 ^ 31 by omega), a0, st2_same rfl]
  · rw [if_neg h, if_neg h, if_pos rfl, if_pos (vin_nI hp (by decide)), nI_clamp (show p < 2 ^ 31 by omega)]
theorem t_fin {n N : Nat} {σ μ : TS} (h : RI allS n N σ μ) {p : Nat} (hp : p < 3) : sX8_runSlot_72 p σ = some (0, if aD μ p = true then σ else st2 σ (39 + 4 * p) 4 (σ (39 + 4 * p) 4 + 1)) := by
  unfold sX8_runSlot_72
  rw [t_one h.1 h.2.1 (fun _ _ => rfl) rfl hp, Option.bind_some]
  unfold sX8_runSlot_77 sX8_runSlot_90
  by_cases hd : aD μ p = true
  · rw [if_pos hd, if_pos hd, if_pos rfl]
  · rw [if_neg hd, if_neg hd, if_neg (show ¬ (1 : Int32) = 0 by decide)]
theorem run_idle {p : Nat} (hp : p < 3) : ∀ (K b : Nat) (μ : TS), b + K = 30 → InvB μ → aD μ p = true → dn μ p 3 = true → ∃ v, sX9_run_20 (K + 1) (nI p) (nI b) μ = some (0, v) ∧ InvB v ∧ ∀ k, k ≠ 20 → v k = μ k := by
  intro K
  induction K with
  | zero =>
    intro b μ hb hB ha h3
    rw [show b = 30 by omega, m_fin hp, if_pos ha]
    exact ⟨μ, rfl, hB, fun _ _ => rfl⟩
  | succ K ih =>
    intro b μ hb hB ha h3
    have hB1 : InvB (st2 μ 20 3 0) := iB_up (k := 20) (v := 0) hB ⟨by decide, by decide⟩
    obtain ⟨v, h1, hBv, h2⟩ := ih (b + 1) (st2 μ 20 3 0) (by omega) hB1 ha h3
    refine ⟨v, ?_, hBv, fun k hk => by rw [h2 k hk, st2_ne _ _ _ hk]⟩
    rw [m_20_def, if_neg (show ¬ (30 : Int32) ≤ nI b from nI_ge (b := 30) (by omega) (by decide)), show (3 : Int32) = nI 3 from rfl, m_does_dn hB (by decide) hp h3, Option.bind_some, m_32 hB1, m_60 _ hp]
    have e : hM (st2 μ 20 3 0) = st2 μ 20 3 0 := if_pos rfl
    rw [e, if_pos (show aD (st2 μ 20 3 0) p = true from ha), nI_1, h1]
theorem run_loop {n N : Nat} {p : Nat} (hp : p < 3) : ∀ (K b : Nat) (σ μ : TS), b + K = 30 → RI allS n N σ μ → SK μ → ∃ u v, sX8_runSlot_38 (K + 1) p (nI p) (nI b) σ = some (0, u) ∧ sX9_run_20 (K + 1) (nI p) (nI b) μ = some (0, v) ∧ RI allS n N u v ∧ SK v ∧ u 0 = σ 0 := by
  intro K
  induction K with
  | zero =>
    intro b σ μ hb h hsk
    rw [show b = 30 by omega, m_fin hp, t_38_def, if_pos (show (30 : Int32) ≤ nI 30 by decide), t_fin h hp]
    by_cases hd : aD μ p = true
    · rw [if_pos hd, if_pos hd]
      exact ⟨σ, μ, rfl, rfl, h, hsk, rfl⟩
    · rw [if_neg hd, if_neg hd]
      obtain ⟨h1, h2, h3⟩ := h
      have e : σ (39 + 4 * p) 4 = μ 24 p := rS_4 h1 rfl (tm_over p hp) (by omega)
      refine ⟨_, _, rfl, rfl, ⟨rS_up h1 (tm_over p hp) (by rw [e]; rfl), ic_same h2 rfl rfl rfl rfl rfl rfl rfl rfl rfl (ic_P h2).2.2 (iB_up (k := 24) (ic_B h2) (i32_any _)), it_same h3 (fun k j hk => ?_) rfl rfl rfl rfl rfl rfl⟩, hsk, st2_ne _ _ _ (by omega)⟩
      unfold tieT at hk
      exact st2_off _ _ (by omega)
  | succ K ih =>
    intro b σ μ hb h hsk
    rw [t_38_def, if_neg (show ¬ (30 : Int32) ≤ nI b from nI_ge (b := 30) (by omega) (by decide)), t_any h.1 h.2.1 (fun _ _ => rfl) rfl hp, Option.bind_some]
    by_cases hd : dn μ p 3 = true ∧ aD μ p = true
    · obtain ⟨v, h1, hBv, h2⟩ := run_idle hp (K + 1) b μ hb (ic_B h.2.1) hd.2 hd.1
      rw [if_pos hd]
      unfold sX8_runSlot_49
      rw [if_pos rfl, t_fin h hp, if_pos hd.2, h1]
      refine ⟨σ, v, rfl, rfl, ri_20 h ?_ (fun k hk => (h2 k hk).symm), ?_, rfl⟩
      · exact ic_same h.2.1 (h2 0 (by decide)) (h2 1 (by decide)) (h2 3 (by decide)) (h2 10 (by decide)) (h2 11 (by decide)) (h2 13 (by decide)) (h2 17 (by decide)) (h2 37 (by decide)) (h2 38 (by decide)) (fun i hi => by rw [h2 7 (by decide)]; exact (ic_P h.2.1).2.2 i hi) hBv
      · unfold SK
        rw [h2 10 (by decide), h2 12 (by decide)]
        exact hsk
    · rw [if_neg hd]
      unfold sX8_runSlot_49
      rw [if_neg (show ¬ (1 : Int32) = 0 by decide)]
      obtain ⟨u, v, e1, e2, e3, e4, e5⟩ := beat h hsk hp (sX8_runSlot_38 (K + 1)) (sX9_run_20 (K + 1)) b
      rw [e1, m_20_def, if_neg (show ¬ (30 : Int32) ≤ nI b from nI_ge (b := 30) (by omega) (by decide)), show (3 : Int32) = nI 3 from rfl, e2]
      obtain ⟨u', v', g1, g2, g3, g4, g5⟩ := ih (b + 1) u v (by omega) e3 e4
      exact ⟨u', v', g1, g2, g3, g4, by rw [g5, e5]⟩
/-! a slot begins -/
def mBeg (c : Nat) (μ : TS) : TS := st2 (st2 (st2 (st2 (st2 μ 9 c 0) 8 (4 * c + 0) (stk μ c 0 0)) 8 (4 * c + 1) (stk μ c 1 0)) 8 (4 * c + 2) (stk μ c 2 0)) 8 (4 * c + 3) (stk μ c 3 0)
theorem m_begins (μ : TS) {c : Nat} (hc : c < 4) : sX9_begins (nI c) μ = some (0, mBeg c μ) := by
  have hs : ∀ K i (ν : TS), i < 4 → sX9_begins_9 (K + 1) (nI c) (nI i) ν = sX9_begins_9 K (nI c) (nI (i + 1)) (st2 ν 8 (4 * c + i) (stk ν c i 0)) := fun K i ν hi => by
    have h0 : sX9_begins_9 (K + 1) (nI c) (nI i) ν = (if ((4 : Int32)) ≤ nI i then some (0, ν) else ((sX9_set (nI c) (nI i) ((0 : Int32)) ν).bind (fun z => sX9_begins_21 (sX9_begins_9 K) (nI c) (nI i) z.2))) := rfl
    rw [h0, if_neg (show ¬ (4 : Int32) ≤ nI i from nI_ge (b := 4) hi (by decide)), m_set ν hc hi, Option.bind_some]
    unfold sX9_begins_21
    rw [nI_1]
  have h0 : sX9_begins (nI c) μ = (if vin (nI c) 4 = true then sX9_begins_9 5 (nI c) (nI 0) (st2 μ 9 ((nI c).toNatClampNeg) ((0 : Int32))) else none) := rfl
  rw [h0, if_pos (vin_nI hc (by decide)), nI_clamp (show c < 2 ^ 31 by omega), hs 4 0 _ (by decide), hs 3 1 _ (by decide), hs 2 2 _ (by decide), hs 1 3 _ (by decide)]
  have h1 : ∀ ν : TS, sX9_begins_9 1 (nI c) (nI (3 + 1)) ν = some (0, ν) := fun ν => if_pos (show (4 : Int32) ≤ nI (3 + 1) by decide)
  rw [h1]
  rfl
theorem beg_c {S : Nat → Bool} {n N : Nat} {σ μ : TS} {c : Nat} (h : RI S n N σ μ) (hS : S c = true) (hc : c < 4) : ∃ u, sX1_begin c σ = some (0, u) ∧ RI S n N u (mBeg c μ) ∧ (∀ k, k < 15 ∨ 38 < k → u k = σ k) := by
  obtain ⟨hR, hI, hT⟩ := h
  have h17 := (ic_P hI).2.1
  have hs : ∀ K i (ν : TS), i < 4 → sX1_begin_7 (K + 1) c (nI i) ν = sX1_begin_7 K c (nI (i + 1)) (st2 ν (20 + 6 * c) i (stkT ν c i 0)) := fun K i ν hi => by
    have h0 : sX1_begin_7 (K + 1) c (nI i) ν = (if ((4 : Int32)) ≤ nI i then some (0, ν) else ((sX1_change c (nI i) ((0 : Int32)) ν).bind (fun z => sX1_begin_18 (sX1_begin_7 K) c (nI i) z.2))) := rfl
    rw [h0, if_neg (show ¬ (4 : Int32) ≤ nI i from nI_ge (b := 4) hi (by decide)), t_change ν c hi, Option.bind_some]
    unfold sX1_begin_18
    rw [nI_1]
  have hup : ∀ (ν w : TS) i, i < 4 → RS S ν w → w 17 3 = 0 → RS S (st2 ν (20 + 6 * c) i (stkT ν c i 0)) (st2 w 8 (4 * c + i) (stk w c i 0)) := fun ν w i hi hr hw => rS_up hr (tm_reg c hc i hi) (stk_eq hr hS hc hi hw 0)
  have r0 : RS S (st2 σ (15 + 6 * c) 11 0) (st2 μ 9 c 0) := rS_up hR (tm_next c hc) rfl
  have r1 := hup _ _ 0 (by decide) r0 h17
  have r2 := hup _ _ 1 (by decide) r1 h17
  have r3 := hup _ _ 2 (by decide) r2 h17
  have r4 := hup _ _ 3 (by decide) r3 h17
  have h0 : sX1_begin c σ = sX1_begin_7 5 c (nI 0) (st2 σ (15 + 6 * c) 11 0) := rfl
  have h1 : ∀ ν : TS, sX1_begin_7 1 c (nI (3 + 1)) ν = some (0, ν) := fun ν => if_pos (show (4 : Int32) ≤ nI (3 + 1) by decide)
  refine ⟨_, by rw [h0, hs 4 0 _ (by decide), hs 3 1 _ (by decide), hs 2 2 _ (by decide), hs 1 3 _ (by decide), h1], ⟨r4, ?_, ?_⟩, fun k hk => ?_⟩
  · refine ic_same hI rfl rfl rfl rfl rfl rfl rfl rfl rfl (ic_P hI).2.2 ?_
    unfold mBeg
    exact iB_up (k := 8) (iB_up (k := 8) (iB_up (k := 8) (iB_up (k := 8) (iB_up (k := 9) (v := 0) (ic_B hI) ⟨by decide, by decide⟩) (stk_rng _ _ _ _)) (stk_rng _ _ _ _)) (stk_rng _ _ _ _)) (stk_rng _ _ _ _)
  · refine it_same hT (fun k j hk => ?_) rfl rfl rfl rfl rfl rfl
    unfold tieT at hk
    rw [st2_off _ _ (by omega), st2_off _ _ (by omega), st2_off _ _ (by omega), st2_off _ _ (by omega), st2_off _ _ (by omega)]
  · rw [st2_ne _ _ _ (by omega), st2_ne _ _ _ (by omega), st2_ne _ _ _ (by omega), st2_ne _ _ _ (by omega), st2_ne _ _ _ (by omega)]
theorem slot_run {n N : Nat} {σ μ : TS} {p : Nat} (hp : p < 3) (h : RI allS n N σ μ) (hsk : SK μ) : ∃ u v, sX8_runSlot (nI p) σ = some (0, u) ∧ sX9_run (nI p) μ = some (0, v) ∧ RI allS n N u v ∧ SK v ∧ u 0 = σ 0 := by
  have tdef : ∀ K (a : Int32) (ν : TS), sX8_runSlot_9 (K + 1) p (nI p) a ν = (if ((3 : Int32)) ≤ a then ((sX1_begin 3 ν).bind (fun z => sX8_runSlot_36 p (nI p) z.2)) else (if vin a 3 = true then ((sX1_begin (a.toNatClampNeg) ν).bind (fun z => sX8_runSlot_23 (sX8_runSlot_9 K) p (nI p) a z.2)) else none)) := fun _ _ _ => rfl
  have mdef : ∀ K (a : Int32) (ν : TS), sX9_run_2 (K + 1) (nI p) a ν = (if ((4 : Int32)) ≤ a then sX9_run_20 31 (nI p) ((0 : Int32)) ν else ((sX9_begins a ν).bind (fun z => sX9_run_12 (sX9_run_2 K) (nI p) a z.2))) := fun _ _ _ => rfl
  have ts : ∀ K c (ν u : TS), c < 3 → sX1_begin c ν = some (0, u) → sX8_runSlot_9 (K + 1) p (nI p) (nI c) ν = sX8_runSlot_9 K p (nI p) (nI (c + 1)) u := fun K c ν u hc hu => by
    rw [tdef, if_neg (show ¬ (3 : Int32) ≤ nI c from nI_ge (b := 3) hc (by decide)), if_pos (vin_nI hc (by decide)), nI_clamp (show c < 2 ^ 31 by omega), hu, Option.bind_some]
    unfold sX8_runSlot_23
    rw [nI_1]
  have ms : ∀ K c (ν : TS), c < 4 → sX9_run_2 (K + 1) (nI p) (nI c) ν = sX9_run_2 K (nI p) (nI (c + 1)) (mBeg c ν) := fun K c ν hc => by
    rw [mdef, if_neg (show ¬ (4 : Int32) ≤ nI c from nI_ge (b := 4) hc (by decide)), m_begins ν hc, Option.bind_some]
    unfold sX9_run_12
    rw [nI_1]
  obtain ⟨u0, a0', r0, f0⟩ := beg_c h rfl (show 0 < 4 by decide)
  obtain ⟨u1, a1, r1, f1⟩ := beg_c r0 rfl (show 1 < 4 by decide)
  obtain ⟨u2, a2, r2, f2⟩ := beg_c r1 rfl (show 2 < 4 by decide)
  obtain ⟨u3, a3, r3, f3⟩ := beg_c r2 rfl (show 3 < 4 by decide)
  obtain ⟨u, v, g1, g2, g3, g4, g5⟩ := run_loop hp 30 0 u3 _ rfl r3 hsk
  have hT : sX8_runSlot (nI p) σ = (if vin (nI p) 3 = true then sX8_runSlot_9 4 ((nI p).toNatClampNeg) (nI p) (nI 0) σ else none) := rfl
  have hM : sX9_run (nI p) μ = sX9_run_2 5 (nI p) (nI 0) μ := rfl
  refine ⟨u, v, ?_, ?_, g3, g4, ?_⟩
  · rw [hT, if_pos (vin_nI hp (by decide)), nI_clamp (show p < 2 ^ 31 by omega), ts 3 0 _ _ (by decide) a0', ts 2 1 _ _ (by decide) a1, ts 1 2 _ _ (by decide) a2, tdef, if_pos (show (3 : Int32) ≤ nI (2 + 1) by decide), a3, Option.bind_some]
    exact g1
  · rw [hM, ms 4 0 _ (by decide), ms 3 1 _ (by decide), ms 2 2 _ (by decide), ms 1 3 _ (by decide), mdef, if_pos (show (4 : Int32) ≤ nI (3 + 1) by decide)]
    exact g2
  · rw [g5, f3 0 (by decide), f2 0 (by decide), f1 0 (by decide), f0 0 (by decide)]
