/-! ===== the calls: checksum ===== -/
def cW (μ : TS) (a : Nat) : Int64 := ((μ 6 a ^^^ μ 7 a).toInt16.toInt32).toInt64
def cF (μ : TS) : Nat → Nat → Int64 → Int64
  | 0, _, y => y
  | n + 1, a, y => cF μ n (a + 1) (31 * y + cW μ a)
theorem cF_app (μ : TS) : ∀ m n a y, cF μ (m + n) a y = cF μ n (a + m) (cF μ m a y)
  | 0, n, a, y => by
    rw [Nat.zero_add, Nat.add_zero]
    rfl
  | m + 1, n, a, y => by
    have h := cF_app μ m n (a + 1) (31 * y + cW μ a)
    rw [show m + 1 + n = (m + n) + 1 by omega]
    show cF μ (m + n) (a + 1) (31 * y + cW μ a) = cF μ n (a + (m + 1)) (cF μ m (a + 1) (31 * y + cW μ a))
    rw [h, show a + 1 + m = a + (m + 1) by omega]
theorem t_seen {σ μ : TS} (h : RelE σ μ) {c i : Nat} (hc : c < 4) (hi : i < 18) : sX4_seen c (nI i) σ = some ((μ 6 (18 * c + i) ^^^ μ 7 (18 * c + i)).toInt16.toInt32, σ) := by
  have g1 : σ (17 + 6 * c) i = μ 6 (18 * c + i) := rE_get h (tm_wr c hc i hi)
  have g2 : σ (18 + 6 * c) i = μ 7 (18 * c + i) := rE_get h (tm_fl c hc i hi)
  unfold sX4_seen sX4_seen_0 sX5_round sX5_round_0
  rw [if_pos (vin_nI hi (by decide)), nI_clamp (show i < 2 ^ 31 by omega), g1, g2, Option.bind_some]
  rfl
theorem l64 {c s : Int32} (hc : -1000000 ≤ c.toInt ∧ c.toInt ≤ 1000000) (hs : 0 ≤ s.toInt ∧ s.toInt ≤ 3) : (c + 100 * s).toInt64 = c.toInt64 + 100 * s.toInt64 := by
  have e100 : (100 : Int32).toInt = 100 := by decide
  have l100 : (100 : Int64).toInt = 100 := by decide
  have hm : (100 * s).toInt = 100 * s.toInt := by
    rw [fb_mulI (by rw [e100]; omega) (by rw [e100]; omega), e100]
  have h1 : (c + 100 * s).toInt = c.toInt + 100 * s.toInt := by
    rw [fb_addI (by rw [hm]; omega) (by rw [hm]; omega), hm]
  apply Int64.toInt_inj.mp
  have hb : ∀ z : Int, -9223372036854775808 ≤ z → z < 9223372036854775808 → z.bmod (2 ^ 64) = z := fun z a b => by
    rw [Int.bmod_eq_of_le (by omega) (by omega)]
  have h2 : (100 * s.toInt64).toInt = 100 * s.toInt := by
    rw [Int64.toInt_mul, l100, Int32.toInt_toInt64, hb _ (by omega) (by omega)]
  rw [Int32.toInt_toInt64, h1, Int64.toInt_add, h2, Int32.toInt_toInt64, hb _ (by omega) (by omega)]
theorem q_checksum : op_checksum Rel := by
  intro j σ μ hj hR
  have hE := hR.1
  -- the outputs
  have t6d : ∀ K (y : Int64) (a : Int32), sX8_checksum_6 (K + 1) y a σ = (if ((4 : Int32)) ≤ a then sX8_checksum_33 4 y ((0 : Int32)) σ else (if vin a 4 = true then sX8_checksum_6 K ((((31 : Int64)) * y) + ((σ (9+0) (a.toNatClampNeg)).toInt64)) (a + (1 : Int32)) σ else none)) := fun _ _ _ => rfl
  have m11d : ∀ K (y : Int64) (a : Int32) (ν : TS), sX9_checksum_11 (K + 1) y a ν = (if ((4 : Int32)) ≤ a then sX9_checksum_38 55 y ((0 : Int32)) ν else (if vin a 4 = true then sX9_checksum_11 K ((((31 : Int64)) * y) + ((ν 22 (a.toNatClampNeg)).toInt64)) (a + (1 : Int32)) ν else none)) := fun _ _ _ _ => rfl
  have t6s : ∀ K (y : Int64) i, i < 4 → sX8_checksum_6 (K + 1) y (nI i) σ = sX8_checksum_6 K (31 * y + (μ 22 i).toInt64) (nI (i + 1)) σ := fun K y i hi => by
    have g : σ (9 + 0) i = μ 22 i := rE_get hE (tm_out i hi)
    rw [t6d, if_neg (show ¬ (4 : Int32) ≤ nI i from nI_ge (b := 4) hi (by decide)), if_pos (vin_nI hi (by decide)), nI_clamp (show i < 2 ^ 31 by omega), g, nI_1]
  have m11s : ∀ K (y : Int64) i, i < 4 → sX9_checksum_11 (K + 1) y (nI i) (st2 μ 0 0 0) = sX9_checksum_11 K (31 * y + (μ 22 i).toInt64) (nI (i + 1)) (st2 μ 0 0 0) := fun K y i hi => by
    rw [m11d, if_neg (show ¬ (4 : Int32) ≤ nI i from nI_ge (b := 4) hi (by decide)), if_pos (vin_nI hi (by decide)), nI_clamp (show i < 2 ^ 31 by omega), nI_1]
    rfl
  -- the words
  have m38d : ∀ K (y : Int64) (a : Int32) (ν : TS), sX9_checksum_38 (K + 1) y a ν = (if ((54 : Int32)) ≤ a then sX9_checksum_76 4 y ((0 : Int32)) ν else (if vin a 72 = true then ((sX9_round ((ν 6 (a.toNatClampNeg)) ^^^ (ν 7 (a.toNatClampNeg))) ν).bind (fun z => sX9_checksum_65 (sX9_checksum_38 K) a (((31 : Int64)) * y) z.1 z.2)) else none)) := fun _ _ _ _ => rfl
  have m38 : ∀ d a (y : Int64), a + d = 54 → sX9_checksum_38 (d + 1) y (nI a) (st2 μ 0 0 0) = sX9_checksum_76 4 (cF μ d a y) (nI 0) (st2 μ 0 0 0) := by
    intro d
    induction d with
    | zero =>
      intro a y ha
      rw [show a = 54 by omega, m38d, if_pos (show (54 : Int32) ≤ nI 54 by decide)]
      rfl
    | succ d ih =>
      intro a y ha
      rw [m38d, if_neg (show ¬ (54 : Int32) ≤ nI a from nI_ge (b := 54) (by omega) (by decide)), if_pos (vin_nI (show a < 72 by omega) (by decide)), nI_clamp (show a < 2 ^ 31 by omega)]
      show sX9_checksum_38 (d + 1) (31 * y + cW μ a) (nI a + 1) (st2 μ 0 0 0) = _
      rw [nI_1, ih (a + 1) _ (by omega)]
      rfl
  have t41d : ∀ (K33 : Int64 → Int32 → TS → Option (Int64 × TS)) K (y : Int64) (a b : Int32), sX8_checksum_41 K33 (K + 1) y a b σ = (if ((18 : Int32)) ≤ b then K33 y (a + (1 : Int32)) σ else (if vin a 3 = true then ((sX4_seen ((a.toNatClampNeg)) b σ).bind (fun z => sX8_checksum_67 K33 (sX8_checksum_41 K33 K) a b (((31 : Int64)) * y) z.1 z.2)) else none)) := fun _ _ _ _ _ => rfl
  have t41 : ∀ (K33 : Int64 → Int32 → TS → Option (Int64 × TS)) c, c < 3 → ∀ d i (y : Int64), i + d = 18 → sX8_checksum_41 K33 (d + 1) y (nI c) (nI i) σ = K33 (cF μ d (18 * c + i) y) (nI (c + 1)) σ := by
    intro K33 c hc d
    induction d with
    | zero =>
      intro i y hi
      rw [show i = 18 by omega, t41d, if_pos (show (18 : Int32) ≤ nI 18 by decide), nI_1]
      rfl
    | succ d ih =>
      intro i y hi
      rw [t41d, if_neg (show ¬ (18 : Int32) ≤ nI i from nI_ge (b := 18) (by omega) (by decide)), if_pos (vin_nI hc (by decide)), nI_clamp (show c < 2 ^ 31 by omega), t_seen hE (show c < 4 by omega) (show i < 18 by omega), Option.bind_some]
      show sX8_checksum_41 K33 (d + 1) (31 * y + cW μ (18 * c + i)) (nI c) (nI i + 1) σ = _
      rw [nI_1, ih (i + 1) _ (by omega)]
      rfl
  have t33d : ∀ K (y : Int64) (a : Int32), sX8_checksum_33 (K + 1) y a σ = (if ((3 : Int32)) ≤ a then sX8_checksum_84 4 y ((0 : Int32)) σ else sX8_checksum_41 (sX8_checksum_33 K) 19 y a ((0 : Int32)) σ) := fun _ _ _ => rfl
  have t33s : ∀ K (y : Int64) c, c < 3 → sX8_checksum_33 (K + 1) y (nI c) σ = sX8_checksum_33 K (cF μ 18 (18 * c) y) (nI (c + 1)) σ := fun K y c hc => by
    rw [t33d, if_neg (show ¬ (3 : Int32) ≤ nI c from nI_ge (b := 3) hc (by decide))]
    exact t41 (sX8_checksum_33 K) c hc 18 0 y rfl
  -- the clocks
  have t84d : ∀ K (y : Int64) (a : Int32), sX8_checksum_84 (K + 1) y a σ = (if ((3 : Int32)) ≤ a then some (y, σ) else (if vin a 3 = true then sX8_checksum_84 K ((((31 : Int64)) * y) + (((σ (15+6*(a.toNatClampNeg)) 2) + (((100 : Int32)) * (σ (15+6*(a.toNatClampNeg)) 4))).toInt64)) (a + (1 : Int32)) σ else none)) := fun _ _ _ => rfl
  have m76d : ∀ K (y : Int64) (a : Int32) (ν : TS), sX9_checksum_76 (K + 1) y a ν = (if ((3 : Int32)) ≤ a then some (y, ν) else (if vin a 4 = true then sX9_checksum_76 K (((((31 : Int64)) * y) + ((ν 13 (a.toNatClampNeg)).toInt64)) + (((100 : Int64)) * ((ν 12 (a.toNatClampNeg)).toInt64))) (a + (1 : Int32)) ν else none)) := fun _ _ _ _ => rfl
  have t84s : ∀ K (y : Int64) c, c < 3 → sX8_checksum_84 (K + 1) y (nI c) σ = sX8_checksum_84 K (31 * y + (μ 13 c).toInt64 + 100 * (μ 12 c).toInt64) (nI (c + 1)) σ := fun K y c hc => by
    have g2 : σ (15 + 6 * c) 2 = μ 13 c := rE_get hE (tm_clock c hc)
    have g4 : σ (15 + 6 * c) 4 = μ 12 c := rE_get hE (tm_strikes c hc)
    have b13 := hR.2.2.1.2.2.2.2.1 c
    have b12 : 0 ≤ (μ 12 c).toInt ∧ (μ 12 c).toInt ≤ 3 := hR.2.1 12 c
    rw [t84d, if_neg (show ¬ (3 : Int32) ≤ nI c from nI_ge (b := 3) hc (by decide)), if_pos (vin_nI hc (by decide)), nI_clamp (show c < 2 ^ 31 by omega), g2, g4, nI_1, l64 (by omega) b12, Int64.add_assoc]
  have m76s : ∀ K (y : Int64) c, c < 3 → sX9_checksum_76 (K + 1) y (nI c) (st2 μ 0 0 0) = sX9_checksum_76 K (31 * y + (μ 13 c).toInt64 + 100 * (μ 12 c).toInt64) (nI (c + 1)) (st2 μ 0 0 0) := fun K y c hc => by
    rw [m76d, if_neg (show ¬ (3 : Int32) ≤ nI c from nI_ge (b := 3) hc (by decide)), if_pos (vin_nI (show c < 4 by omega) (by decide)), nI_clamp (show c < 2 ^ 31 by omega), nI_1]
    rfl
  have hT : ∃ bb, sX8_checksum σ = some (bb, σ) ∧ sX9_checksum μ = some (bb, st2 μ 0 0 0) := by
    have h0 : sX8_checksum σ = sX8_checksum_6 5 7 (nI 0) σ := rfl
    have k0 : sX9_checksum μ = sX9_checksum_11 5 7 (nI 0) (st2 μ 0 0 0) := rfl
    rw [h0, t6s 4 _ 0 (by decide), t6s 3 _ 1 (by decide), t6s 2 _ 2 (by decide), t6s 1 _ 3 (by decide), t6d, if_pos (show (4 : Int32) ≤ nI (3 + 1) by decide), k0, m11s 4 _ 0 (by decide), m11s 3 _ 1 (by decide), m11s 2 _ 2 (by decide), m11s 1 _ 3 (by decide), m11d, if_pos (show (4 : Int32) ≤ nI (3 + 1) by decide)]
    generalize (31 : Int64) * (31 * (31 * (31 * 7 + (μ 22 0).toInt64) + (μ 22 1).toInt64) + (μ 22 2).toInt64) + (μ 22 3).toInt64 = y
    rw [show sX9_checksum_38 55 y 0 (st2 μ 0 0 0) = _ from m38 54 0 y rfl, show sX8_checksum_33 4 y 0 σ = _ from t33s 3 y 0 (by decide), t33s 2 _ 1 (by decide), t33s 1 _ 2 (by decide), t33d, if_pos (show (3 : Int32) ≤ nI (2 + 1) by decide)]
    have hy : cF μ 54 0 y = cF μ 18 (18 * 2) (cF μ 18 (18 * 1) (cF μ 18 (18 * 0) y)) := by
      rw [show (54 : Nat) = 18 + (18 + 18) from rfl, cF_app, cF_app]
    rw [hy]
    generalize cF μ 18 (18 * 2) (cF μ 18 (18 * 1) (cF μ 18 (18 * 0) y)) = z
    rw [show sX8_checksum_84 4 z 0 σ = _ from t84s 3 z 0 (by decide), t84s 2 _ 1 (by decide), t84s 1 _ 2 (by decide), t84d, if_pos (show (3 : Int32) ≤ nI (2 + 1) by decide), m76s 3 _ 0 (by decide), m76s 2 _ 1 (by decide), m76s 1 _ 2 (by decide), m76d, if_pos (show (3 : Int32) ≤ nI (2 + 1) by decide)]
    exact ⟨_, rfl, rfl⟩
  obtain ⟨bb, e1, e2⟩ := hT
  exact ⟨bb, σ, st2 μ 0 0 0, e1, e2, rel_thr hR 0⟩
