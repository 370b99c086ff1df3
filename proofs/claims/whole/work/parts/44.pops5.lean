/-! ===== the calls: code, onShare, meanOutput, checksum ===== -/
theorem lchr_nar (x : Int32) : vp_nar .char (lchr x) = lchr x := pk_vc x
theorem lchr_rng (x : Int32) : 0 ≤ (lchr x).toInt ∧ (lchr x).toInt ≤ 65535 := by
  unfold lchr
  rw [pk_char, nI_toInt (by omega)]
  omega
theorem fit_any (k n : Int32) (μ : TS) : sX9_fits k n μ = some (0, μ) ∨ sX9_fits k n μ = some (1, μ) := by
  rcases fitR k n (show 0 < 4 by decide) with ⟨_, h⟩ | ⟨_, _, h⟩
  · exact Or.inl (h μ)
  · exact Or.inr (h μ)
theorem c50_n (x1 x2 x3 x4 : Int32) (ν : TS) {t : Int32} (ht : ¬ t ≤ 0) : sX9_code_50 x1 x2 x3 x4 t ν = some (0, st2 ν 0 0 t) := by
  unfold sX9_code_50
  rw [if_neg (show ¬ (st2 ν 0 0 t) 0 0 ≤ 0 by rw [st2_eq]; exact ht)]
theorem q_code : op_code Rel := by
  intro j σ μ x1 x2 x3 x4 hj hR
  have hnar := lchr_nar x2
  have hrng := lchr_rng x2
  generalize lchr x2 = k at *
  rcases ix3 x1 with ⟨hT, hM⟩ | ⟨p, hp, rfl, hT, hM⟩
  · refine ⟨.inr 1, σ, 0, st2 μ 0 0 1, ?_, ?_, ⟨1, rfl, rfl, by decide⟩, rel_thr hR 1⟩
    · simp only [sX8_code, sX8_code_0, hT, Option.bind_some, o_x_r]
    · simp only [sX9_code, sX9_code_0, sX9_code_5, sX9_code_8, hM, isOut0, e10, Option.bind_some, if_false]
  have hM0 : sX9_code (nI p) k x3 x4 μ = (sX9_fits k x4 (st2 μ 0 0 0)).bind (fun z => sX9_code_20 (nI p) k x3 x4 z.1 z.2) := by
    simp only [sX9_code, sX9_code_0, sX9_code_5, sX9_code_8, hM, isOut1, eq_self, Option.bind_some, if_true]
  have hT0 : sX8_code (nI p) k x3 x4 σ = (sX6_isInstruction k x3 x4 σ).bind (fun z => sX8_code_12 (nI p) k x3 x4 z.1 z.2) := by
    simp only [sX8_code, sX8_code_0, sX8_code_5, hT, Option.bind_some, o_x_l]
  rw [hT0, hM0]
  have c20 : sX9_code_20 (nI p) k x3 x4 0 (st2 μ 0 0 0) = some (0, st2 (st2 μ 0 0 0) 0 0 2) := by
    unfold sX9_code_20 sX9_code_30
    rw [if_pos rfl, c50_n _ _ _ _ _ (show ¬ (2 : Int32) ≤ 0 by decide)]
  rcases iw x3 0 3 (A := 0) (B := 3) (by decide) (by decide) with ⟨a, b⟩ | ⟨l, u, a, b⟩
  · refine ⟨.inr 2, σ, 0, st2 (st2 μ 0 0 0) 0 0 2, ?_, ?_, ⟨2, rfl, rfl, by decide⟩, rel_thr2 hR 0 2⟩
    · have hi : sX6_isInstruction k x3 x4 σ = some (0, σ) := by
        unfold sX6_isInstruction sX6_isInstruction_0
        rw [a, Option.bind_some]
        unfold sX6_isInstruction_6
        rw [if_pos rfl]
      rw [hi, Option.bind_some]
      unfold sX8_code_12
      rw [rf0, Option.bind_some, o_x_r]
    · rcases fit_any k x4 (st2 μ 0 0 0) with h | h
      · rw [h, Option.bind_some, c20]
      · rw [h, Option.bind_some]
        unfold sX9_code_20 sX9_code_27 sX9_code_30
        rw [if_neg (show ¬ (1 : Int32) = 0 by decide), isF_of b zok0, Option.bind_some, if_pos rfl, c50_n _ _ _ _ _ (show ¬ (2 : Int32) ≤ 0 by decide)]
  obtain ⟨r, hr, rfl⟩ := i32_nI (n := 3) l u
  rcases fitR k x4 (show r < 4 by omega) with ⟨fT, fM⟩ | ⟨⟨hV, lo, hi⟩, fT, fM⟩
  · refine ⟨.inr 2, σ, 0, st2 (st2 μ 0 0 0) 0 0 2, ?_, ?_, ⟨2, rfl, rfl, by decide⟩, rel_thr2 hR 0 2⟩
    · rw [fT, Option.bind_some]
      unfold sX8_code_12
      rw [rf0, Option.bind_some, o_x_r]
    · rw [fM, Option.bind_some, c20]
  rw [fT, fM, Option.bind_some, Option.bind_some]
  unfold sX8_code_12 sX9_code_20
  rw [rf1, Option.bind_some, o_x_l, if_neg (show ¬ (1 : Int32) = 0 by decide), isF_of b zok1, Option.bind_some]
  obtain ⟨s, hs, h4⟩ := b_nI hR.2.1 4 p (n := 10) rfl
  have t3 : σ (39 + 4 * p) 3 = nI s := (rE_get hR.1 (tm_size p hp)).trans h4
  have e4 : (st2 μ 0 0 0) 4 p = nI s := h4
  unfold sX8_code_15 sX9_code_27
  dsimp only
  rw [if_neg (show ¬ (1 : Int32) = 0 by decide), if_pos (vin_nI hp (by decide)), if_pos (vin_nI hp (by decide)), nI_clamp (show p < 2 ^ 31 by omega)]
  by_cases hs10 : s = 10
  · subst hs10
    rw [if_neg (show ¬ σ (39 + 4 * p) 3 < 10 by rw [t3]; decide), if_pos (show (st2 μ 0 0 0) 4 p = 10 by rw [e4]; rfl), c50_n _ _ _ _ _ (show ¬ (3 : Int32) ≤ 0 by decide)]
    exact ⟨.inr 3, σ, 0, st2 (st2 μ 0 0 0) 0 0 3, rfl, rfl, ⟨3, rfl, rfl, by decide⟩, rel_thr2 hR 0 3⟩
  have hs9 : s < 10 := by omega
  rw [if_pos (show σ (39 + 4 * p) 3 < 10 by rw [t3]; exact nI_lt (b := 10) hs9 (by decide)), if_neg (show ¬ (st2 μ 0 0 0) 4 p = 10 by rw [e4]; exact fun g => hs10 ((nI_eq (b := 10) (by omega) (by decide)).mp g))]
  have hTa : sX6_append p k (nI r) x4 σ = some (nI (s + 1), st2 (st2 (st2 (st2 σ (40 + 4 * p) s k) (41 + 4 * p) s (nI r)) (42 + 4 * p) s x4) (39 + 4 * p) 3 (nI (s + 1))) := by
    have g1 : (st2 σ (40 + 4 * p) s k) (39 + 4 * p) 3 = nI s := (congrFun (st2_ne _ _ _ (by omega)) _).trans t3
    have g2 : (st2 (st2 σ (40 + 4 * p) s k) (41 + 4 * p) s (nI r)) (39 + 4 * p) 3 = nI s := (congrFun (st2_ne _ _ _ (by omega)) _).trans g1
    have g3 : (st2 (st2 (st2 σ (40 + 4 * p) s k) (41 + 4 * p) s (nI r)) (42 + 4 * p) s x4) (39 + 4 * p) 3 = nI s := (congrFun (st2_ne _ _ _ (by omega)) _).trans g2
    unfold sX6_append sX6_append_0 sX6_append_49
    simp only [t3, hnar, nI_clamp (show s < 2 ^ 31 by omega), g1, g2, g3, vin_nI hs9 (show 10 < 2 ^ 31 by decide), eq_self, if_true, if_neg (show ¬ (10 : Int32) ≤ nI s from nI_ge (b := 10) hs9 (by decide)), nI_1, st2_eq]
  have hMa : sX9_code_50 (nI p) k (nI r) x4 0 (st2 μ 0 0 0) = some (nI (s + 1), st2 (st2 (st2 (st2 (st2 (st2 μ 0 0 0) 0 0 0) 1 (10 * p + s) k) 2 (10 * p + s) (nI r)) 3 (10 * p + s) x4) 4 p (nI (s + 1))) := by
    have g0 : (st2 (st2 μ 0 0 0) 0 0 0) 4 p = nI s := h4
    have g3 : (st2 (st2 (st2 (st2 (st2 μ 0 0 0) 0 0 0) 1 (10 * p + s) k) 2 (10 * p + s) (nI r)) 3 (10 * p + s) x4) 4 p = nI s := h4
    unfold sX9_code_50
    rw [if_pos (show (st2 (st2 μ 0 0 0) 0 0 0) 0 0 ≤ 0 by rw [st2_eq]; decide)]
    simp only [nI_clamp (show p < 2 ^ 31 by omega), vin_nI hp (show 3 < 2 ^ 31 by decide), eq_self, if_true, nI_m10, g0, nI_add, vin_nI (show 10 * p + s < 30 by omega) (show 30 < 2 ^ 31 by decide), nI_clamp (show 10 * p + s < 2 ^ 31 by omega), hnar, g3, nI_1, st2_eq]
  rw [hTa, hMa, Option.bind_some]
  unfold sX8_code_52
  refine ⟨_, _, _, _, rfl, rfl, ⟨0, rfl, rfl, fun _ => rfl⟩, ?_⟩
  obtain ⟨h1, h2, ⟨m1, m2⟩, h4', h5, h6⟩ := rel_thr2 hR 0 0
  have hk : ∀ (τ : TS), InvT τ μ → InvT (st2 (st2 (st2 (st2 τ (40 + 4 * p) s k) (41 + 4 * p) s (nI r)) (42 + 4 * p) s x4) (39 + 4 * p) 3 (nI (s + 1))) μ := fun τ h => iT_T (iT_T (iT_T (iT_T h _ (by unfold tieT; omega)) _ (by unfold tieT; omega)) _ (by unfold tieT; omega)) _ (by unfold tieT; omega)
  have hkF : ∀ (τ : TS), InvF τ μ → InvF (st2 (st2 (st2 (st2 τ (40 + 4 * p) s k) (41 + 4 * p) s (nI r)) (42 + 4 * p) s x4) (39 + 4 * p) 3 (nI (s + 1))) μ := fun τ h => iF_T (iF_T (iF_T (iF_T h _ (by unfold tieT; omega)) _ (by unfold tieT; omega)) _ (by unfold tieT; omega)) _ (by unfold tieT; omega)
  refine ⟨rE_up (rE_up (rE_up (rE_up h1 (tm_kind p hp s hs9) rfl) (tm_creg p hp s hs9) rfl) (tm_cn p hp s hs9) rfl) (tm_size p hp) rfl, iB_up (k := 4) (iB_up (k := 3) (iB_up (k := 2) (iB_up (k := 1) h2 hrng) ?_) ⟨lo, hi⟩) ?_, ⟨fun i => ?_, m2⟩, hk σ hR.2.2.2.1, hkF σ hR.2.2.2.2.1, h6⟩
  · rw [nI_toInt (by omega)]
    show (0 : Int) ≤ _ ∧ _ ≤ (3 : Int)
    omega
  · rw [nI_toInt (by omega)]
    show (0 : Int) ≤ _ ∧ _ ≤ (10 : Int)
    omega
  · show okV ((st2 μ 1 (10 * p + s) k) 1 i) ((st2 μ 3 (10 * p + s) x4) 3 i)
    by_cases hi : i = 10 * p + s
    · rw [hi, st2_eq, st2_eq]
      exact hV
    · rw [st2_nj _ _ hi, st2_nj _ _ hi]
      exact m1 i
/-! the share that is on -/
theorem q_onShare : op_onShare Rel := by
  intro j σ μ hj hR
  have hn := nOn_3 μ
  have hon : sX8_countOn σ = some (nI (nOn μ), σ) := t_on (fun c hc => by
    rcases onR hR.1 hR.2.1 (show c < 4 by omega) with ⟨t6, m10⟩ | ⟨t6, m10⟩
    · exact ⟨fun _ => m10, fun _ => t6⟩
    · exact ⟨fun h => by rw [t6] at h; exact absurd h (by decide), fun h => absurd m10 h⟩)
  have hm : sX9_on (st2 μ 0 0 0) = some (nI (nOn μ), st2 μ 0 0 0) := m_on (st2 μ 0 0 0)
  have hf : ∀ n, n < 4 → fok (FP.fdiv (FP.i2f (nI n)) ((1077936128 : UInt32))) = true := by decide +kernel
  have hd : ∀ n, n < 4 → dok (FP.f2d (FP.fdiv (FP.i2f (nI n)) ((1077936128 : UInt32)))) = true := by decide +kernel
  have hc : ∀ n, n < 4 → Op.cmpValue (FP.dcmp (FP.f2d (FP.fdiv (FP.i2f (nI n)) ((1077936128 : UInt32)))) (FP.f2d (FP.fdiv (FP.i2f (nI n)) ((1077936128 : UInt32))))) .l = 0 := by decide +kernel
  refine ⟨FP.fdiv (FP.i2f (nI (nOn μ))) ((1077936128 : UInt32)), σ, st2 μ 0 0 0, ?_, ?_, dok_n (hd _ (by omega)), hc _ (by omega), rel_thr hR 0⟩
  · unfold sX8_onShare sX8_onShare_0
    rw [hon, Option.bind_some]
    unfold sX8_onShare_4
    rw [if_pos (hf _ (by omega))]
  · unfold sX9_onShare sX9_onShare_0
    rw [hm, Option.bind_some]
    unfold sX9_onShare_9
    rw [if_pos (hf _ (by omega))]
/-! the mean of the outputs -/
theorem d4_fin : FP.Core.DFin (4616189618054758400 : UInt64) := (FP.Core.fin_bits _).mpr (by decide +kernel)
theorem d4_nz : ¬ FP.Core.DZero (4616189618054758400 : UInt64) := by
  rintro ⟨s, q, h⟩
  have h1 : FP.Core.val64 (4616189618054758400 : UInt64) = .fin false (2 ^ 52) (-50) := by decide +kernel
  rw [h1] at h
  cases h
theorem i2d_nn (a : Int32) : FP.Core.dIsNaN (FP.i2d a) = false := by
  rw [FP.Core.notNaN_iff]
  intro h
  have h1 := FP.Core.i2d_int a
  unfold FP.Core.DInt at h1
  have h2 : FP.Core.val64 (FP.Core.i2d a) = .nan := h
  rw [h2] at h1
  exact h1
theorem mean_nn (a : Int32) : FP.Core.val64 (FP.ddiv (FP.i2d a) (4616189618054758400 : UInt64)) ≠ .nan := by
  rw [← FP.Core.notNaN_iff]
  exact FP.Core.ddiv_out (i2d_nn a) d4_fin d4_nz
theorem dok_of {x : UInt64} (h : FP.Core.val64 x ≠ .nan) : dok x = true := by
  unfold dok
  apply decide_eq_true
  rw [FP.Core.ne_nan] at h
  rw [UInt64.le_iff_toNat_le, UInt64.toNat_and]
  have e1 : (0x7fffffffffffffff : UInt64).toNat = 2 ^ 63 - 1 := by decide
  have e2 : (0x7ff0000000000000 : UInt64).toNat = 9218868437227405312 := by decide
  rw [e1, e2, Nat.and_two_pow_sub_one_eq_mod]
  exact h
theorem q_meanOutput : op_meanOutput Rel := by
  intro j σ μ hj hR
  have g : ∀ i, i < 4 → σ (9 + 0) i = μ 22 i := fun i hi => rE_get hR.1 (tm_out i hi)
  have tdef : ∀ K (x a : Int32), sX8_meanOutput_4 (K + 1) x a σ = (if ((4 : Int32)) ≤ a then (if dok (FP.ddiv (FP.i2d x) ((4616189618054758400 : UInt64))) = true then some (FP.ddiv (FP.i2d x) ((4616189618054758400 : UInt64)), σ) else none) else (if vin a 4 = true then sX8_meanOutput_4 K (x + (σ (9+0) (a.toNatClampNeg))) (a + (1 : Int32)) σ else none)) := fun _ _ _ => rfl
  have mdef : ∀ K (x a : Int32) (ν : TS), sX9_meanOutput_9 (K + 1) x a ν = (if ((4 : Int32)) ≤ a then (if dok (FP.ddiv (FP.i2d x) ((4616189618054758400 : UInt64))) = true then some (FP.ddiv (FP.i2d x) ((4616189618054758400 : UInt64)), ν) else none) else (if vin a 4 = true then sX9_meanOutput_9 K (x + (ν 22 (a.toNatClampNeg))) (a + (1 : Int32)) ν else none)) := fun _ _ _ _ => rfl
  have ts : ∀ K x i, i < 4 → sX8_meanOutput_4 (K + 1) x (nI i) σ = sX8_meanOutput_4 K (x + μ 22 i) (nI (i + 1)) σ := fun K x i hi => by
    rw [tdef, if_neg (show ¬ (4 : Int32) ≤ nI i from nI_ge (b := 4) hi (by decide)), if_pos (vin_nI hi (by decide)), nI_clamp (show i < 2 ^ 31 by omega), g i hi, nI_1]
  have ms : ∀ K x i, i < 4 → sX9_meanOutput_9 (K + 1) x (nI i) (st2 μ 0 0 0) = sX9_meanOutput_9 K (x + μ 22 i) (nI (i + 1)) (st2 μ 0 0 0) := fun K x i hi => by
    rw [mdef, if_neg (show ¬ (4 : Int32) ≤ nI i from nI_ge (b := 4) hi (by decide)), if_pos (vin_nI hi (by decide)), nI_clamp (show i < 2 ^ 31 by omega), nI_1]
    rfl
  have hnn := mean_nn (0 + μ 22 0 + μ 22 1 + μ 22 2 + μ 22 3)
  refine ⟨FP.ddiv (FP.i2d (0 + μ 22 0 + μ 22 1 + μ 22 2 + μ 22 3)) ((4616189618054758400 : UInt64)), σ, st2 μ 0 0 0, ?_, ?_, ?_, rel_thr hR 0⟩
  · have h0 : sX8_meanOutput σ = sX8_meanOutput_4 5 0 (nI 0) σ := rfl
    rw [h0, ts 4 _ 0 (by decide), ts 3 _ 1 (by decide), ts 2 _ 2 (by decide), ts 1 _ 3 (by decide), tdef, if_pos (show (4 : Int32) ≤ nI (3 + 1) by decide), if_pos (dok_of hnn)]
  · have h0 : sX9_meanOutput μ = sX9_meanOutput_9 5 0 (nI 0) (st2 μ 0 0 0) := rfl
    rw [h0, ms 4 _ 0 (by decide), ms 3 _ 1 (by decide), ms 2 _ 2 (by decide), ms 1 _ 3 (by decide), mdef, if_pos (show (4 : Int32) ≤ nI (3 + 1) by decide), if_pos (dok_of hnn)]
  · have h1 : FP.dcmp (FP.ddiv (FP.i2d (0 + μ 22 0 + μ 22 1 + μ 22 2 + μ 22 3)) ((4616189618054758400 : UInt64))) (FP.ddiv (FP.i2d (0 + μ 22 0 + μ 22 1 + μ 22 2 + μ 22 3)) ((4616189618054758400 : UInt64))) = some .eq := FP.Core.dcmp_self hnn
    rw [h1]
    rfl
