/-! ===== the class alone: single calls ===== -/
theorem c_ri {k n : Nat} (σ : TS) (h : k < n) (hn : n < 2 ^ 31) : sX8_requireIndex (nI k) (nI n) σ = some (Sum.inl 0, σ) := by
  unfold sX8_requireIndex sX8_requireIndex_0
  rw [if_neg (nI_pos (by omega)), if_pos (nI_lt h hn)]
theorem c_ri2 {k : Nat} (σ : TS) (h : k < 2) : sX8_requireIndex (nI k) (2 : Int32) σ = some (Sum.inl 0, σ) := c_ri (n := 2) σ h (by decide)
theorem c_ri3 {k : Nat} (σ : TS) (h : k < 3) : sX8_requireIndex (nI k) (3 : Int32) σ = some (Sum.inl 0, σ) := c_ri (n := 3) σ h (by decide)
theorem c_ri4 {k : Nat} (σ : TS) (h : k < 4) : sX8_requireIndex (nI k) (4 : Int32) σ = some (Sum.inl 0, σ) := c_ri (n := 4) σ h (by decide)
theorem c_ri6 {k : Nat} (σ : TS) (h : k < 6) : sX8_requireIndex (nI k) (6 : Int32) σ = some (Sum.inl 0, σ) := c_ri (n := 6) σ h (by decide)
theorem c_ri16 {k : Nat} (σ : TS) (h : k < 16) : sX8_requireIndex (nI k) (16 : Int32) σ = some (Sum.inl 0, σ) := c_ri (n := 16) σ h (by decide)
theorem k_strikes {w : Nat} (hw : w < 3) (σ : TS) : sX8_strikes (nI w) σ = some (.inl (σ (15 + 6 * w) 4), σ) := by
  unfold sX8_strikes sX8_strikes_0
  rw [c_ri3 σ hw, Option.bind_some]
  show sX8_strikes_5 (nI w) σ = _
  unfold sX8_strikes_5
  rw [if_pos (vin_nI hw (by decide)), nI_clamp (show w < 2 ^ 31 by omega)]
theorem k_mended {w : Nat} (hw : w < 3) (σ : TS) : sX8_mended (nI w) σ = some (.inl (σ (16 + 6 * w) 2), σ) := by
  unfold sX8_mended sX8_mended_0
  rw [c_ri3 σ hw, Option.bind_some]
  show sX8_mended_5 (nI w) σ = _
  unfold sX8_mended_5
  rw [if_pos (vin_nI hw (by decide)), nI_clamp (show w < 2 ^ 31 by omega)]
theorem k_isOn {w : Nat} (hw : w < 3) {σ : TS} (hz : zok (σ (15 + 6 * w) 6) = true) : sX8_isOn (nI w) σ = some (.inl (σ (15 + 6 * w) 6), σ) := by
  unfold sX8_isOn sX8_isOn_0
  rw [c_ri3 σ hw, Option.bind_some]
  show sX8_isOn_5 (nI w) σ = _
  unfold sX8_isOn_5
  rw [if_pos (vin_nI hw (by decide)), nI_clamp (show w < 2 ^ 31 by omega), if_pos hz]
theorem k_output {w : Nat} (hw : w < 4) (σ : TS) : sX8_output (nI w) σ = some (.inl (σ 9 w), σ) := by
  unfold sX8_output sX8_output_0
  rw [c_ri4 σ hw, Option.bind_some]
  show sX8_output_5 (nI w) σ = _
  unfold sX8_output_5
  rw [if_pos (vin_nI hw (by decide)), nI_clamp (show w < 2 ^ 31 by omega)]
theorem k_overruns {w : Nat} (hw : w < 3) (σ : TS) : sX8_overruns (nI w) σ = some (.inl (σ (39 + 4 * w) 4), σ) := by
  unfold sX8_overruns sX8_overruns_0
  rw [c_ri3 σ hw, Option.bind_some]
  show sX8_overruns_5 (nI w) σ = _
  unfold sX8_overruns_5
  rw [if_pos (vin_nI hw (by decide)), nI_clamp (show w < 2 ^ 31 by omega)]
theorem k_word {w p i : Nat} (hw : w < 3) (hp : p < 3) (hi : i < 6) (σ : TS) : sX8_word (nI w) (nI p) (nI i) σ = some (.inl ((σ (17 + 6 * w) (6 * p + i) ^^^ σ (18 + 6 * w) (6 * p + i)).toInt16.toInt32), σ) := by
  unfold sX8_word sX8_word_0
  rw [c_ri3 σ hw, Option.bind_some]
  show sX8_word_5 (nI w) (nI p) (nI i) σ = _
  unfold sX8_word_5
  rw [c_ri3 σ hp, Option.bind_some]
  show sX8_word_10 (nI w) (nI p) (nI i) σ = _
  unfold sX8_word_10
  rw [c_ri6 σ hi, Option.bind_some]
  show sX8_word_16 (nI w) (nI p) (nI i) σ = _
  unfold sX8_word_16 sX4_seen sX4_seen_0
  rw [m6_nI, nI_add, if_pos (vin_nI hw (by decide)), if_pos (vin_nI (show 6 * p + i < 18 by omega) (by decide)), nI_clamp (show w < 2 ^ 31 by omega), nI_clamp (show 6 * p + i < 2 ^ 31 by omega)]
  rfl
theorem k_flip {w p i b : Nat} (hw : w < 3) (hp : p < 3) (hi : i < 6) (hb : b < 16) {σ : TS} (h : 0 ≤ (σ (18 + 6 * w) (6 * p + i)).toInt ∧ (σ (18 + 6 * w) (6 * p + i)).toInt ≤ 65535) : sX8_flip (nI w) (nI p) (nI i) (nI b) σ = some (.inl (nI (cntb (σ (18 + 6 * w) (6 * p + i) ^^^ ((1 : Int32) <<< (nI b &&& 31))))), st2 (st2 σ 0 14 1) (18 + 6 * w) (6 * p + i) (σ (18 + 6 * w) (6 * p + i) ^^^ ((1 : Int32) <<< (nI b &&& 31)))) := by
  unfold sX8_flip sX8_flip_0
  rw [c_ri3 σ hw, Option.bind_some]
  show sX8_flip_5 (nI w) (nI p) (nI i) (nI b) σ = _
  unfold sX8_flip_5
  rw [c_ri3 σ hp, Option.bind_some]
  show sX8_flip_10 (nI w) (nI p) (nI i) (nI b) σ = _
  unfold sX8_flip_10
  rw [c_ri6 σ hi, Option.bind_some]
  show sX8_flip_16 (nI w) (nI p) (nI i) (nI b) σ = _
  unfold sX8_flip_16
  rw [c_ri16 σ hb, Option.bind_some]
  show sX8_flip_23 (nI w) (nI p) (nI i) (nI b) σ = _
  unfold sX8_flip_23 sX4_turn sX4_turn_0
  rw [m6_nI, nI_add, if_pos (vin_nI hw (by decide)), if_pos (vin_nI (show 6 * p + i < 18 by omega) (by decide)), nI_clamp (show w < 2 ^ 31 by omega), nI_clamp (show 6 * p + i < 2 ^ 31 by omega), st2_ne σ 14 1 (show 18 + 6 * w ≠ 0 by omega), st2_eq, cnt_T (turn_16 h hb), Option.bind_some]
  rfl
theorem k_code {σ : TS} {p s : Nat} {K r n : Int32} (hp : p < 3) (hs : σ (39 + 4 * p) 3 = nI s) (hs10 : s < 10) (hi : sX6_isInstruction K r n σ = some (1, σ)) (hK : vp_nar .char K = K) : sX8_code (nI p) K r n σ = some (.inl (nI (s + 1)), st2 (st2 (st2 (st2 σ (40 + 4 * p) s K) (41 + 4 * p) s r) (42 + 4 * p) s n) (39 + 4 * p) 3 (nI (s + 1))) := by
  have e1 : (st2 σ (40 + 4 * p) s K) (39 + 4 * p) 3 = nI s := (congrFun (st2_ne σ _ _ (by omega)) _).trans hs
  have e2 : (st2 (st2 σ (40 + 4 * p) s K) (41 + 4 * p) s r) (39 + 4 * p) 3 = nI s := (congrFun (st2_ne _ _ _ (by omega)) _).trans e1
  have e3 : (st2 (st2 (st2 σ (40 + 4 * p) s K) (41 + 4 * p) s r) (42 + 4 * p) s n) (39 + 4 * p) 3 = nI s := (congrFun (st2_ne _ _ _ (by omega)) _).trans e2
  unfold sX8_code sX8_code_0
  rw [c_ri3 σ hp, Option.bind_some]
  show sX8_code_5 (nI p) K r n σ = _
  unfold sX8_code_5
  rw [hi, Option.bind_some]
  show sX8_code_15 (nI p) K r n σ = _
  unfold sX8_code_15 sX6_append sX6_append_0 sX6_append_49
  rw [if_pos (vin_nI hp (by decide)), nI_clamp (show p < 2 ^ 31 by omega), hs, if_pos (show nI s < (10 : Int32) from nI_lt (b := 10) hs10 (by decide)), if_neg (show ¬ (10 : Int32) ≤ nI s from nI_ge (b := 10) hs10 (by decide)), if_pos (vin_nI hs10 (by decide)), nI_clamp (show s < 2 ^ 31 by omega), hK, e1, if_pos (vin_nI hs10 (by decide)), nI_clamp (show s < 2 ^ 31 by omega), e2, if_pos (vin_nI hs10 (by decide)), nI_clamp (show s < 2 ^ 31 by omega), e3, nI_1, st2_eq]
  rfl
theorem k_full {σ : TS} {p s : Nat} {K r n : Int32} (hp : p < 3) (hs : σ (39 + 4 * p) 3 = nI s) (hs10 : ¬ s < 10) (hs2 : s < 2 ^ 31) (hi : sX6_isInstruction K r n σ = some (1, σ)) : sX8_code (nI p) K r n σ = some (.inr 3, σ) := by
  unfold sX8_code sX8_code_0
  rw [c_ri3 σ hp, Option.bind_some]
  show sX8_code_5 (nI p) K r n σ = _
  unfold sX8_code_5
  rw [hi, Option.bind_some]
  show sX8_code_15 (nI p) K r n σ = _
  unfold sX8_code_15
  rw [if_pos (vin_nI hp (by decide)), nI_clamp (show p < 2 ^ 31 by omega), hs, if_neg (show ¬ nI s < (10 : Int32) from nI_nlt (b := 10) (by omega) hs2)]
theorem k_clear {σ : TS} {p : Nat} (hp : p < 3) : sX8_clear (nI p) σ = some (.inl (σ (39 + 4 * p) 3), st2 σ (39 + 4 * p) 3 0) := by
  unfold sX8_clear sX8_clear_0
  rw [c_ri3 σ hp, Option.bind_some]
  show sX8_clear_5 (nI p) σ = _
  unfold sX8_clear_5
  rw [if_pos (vin_nI hp (by decide)), nI_clamp (show p < 2 ^ 31 by omega)]
theorem k_slot {σ : TS} {m i p : Nat} (hm : m < 2) (hi : i < 3) (hp : p < 3) : sX8_slot (nI m) (nI i) (nI p) σ = some (.inl (σ (3 + m) i), st2 σ (3 + m) i (nI p)) := by
  unfold sX8_slot sX8_slot_0
  rw [c_ri2 σ hm, Option.bind_some]
  show sX8_slot_5 (nI m) (nI i) (nI p) σ = _
  unfold sX8_slot_5
  rw [c_ri3 σ hi, Option.bind_some]
  show sX8_slot_10 (nI m) (nI i) (nI p) σ = _
  unfold sX8_slot_10
  rw [if_neg (nI_ne_m1 (by omega)), c_ri3 σ hp, Option.bind_some]
  show sX8_slot_20 (nI m) (nI i) (nI p) σ = _
  unfold sX8_slot_20
  rw [if_pos (vin_nI hm (by decide)), if_pos (vin_nI hi (by decide)), nI_clamp (show m < 2 ^ 31 by omega), nI_clamp (show i < 2 ^ 31 by omega)]
theorem k_hsb (σ : TS) (w : Nat) : sX1_hasStuckBit w σ = some (if σ (15 + 6 * w) 5 = -1 then 0 else 1, σ) := by
  unfold sX1_hasStuckBit sX1_hasStuckBit_0 sX1_hasStuckBit_13
  by_cases h : σ (15 + 6 * w) 5 = -1
  · rw [if_pos h, if_pos h]
    rfl
  · rw [if_neg h, if_neg h]
    rfl
theorem k_stick {σ : TS} {w r b : Nat} {v : Int32} (hw : w < 3) (hr : r < 4) (hb : b < 16) (hv : zok v = true) : sX8_stick (nI w) (nI r) (nI b) v σ = some (.inl (if σ (15 + 6 * w) 5 = -1 then 0 else 1), st2 (st2 (st2 (st2 (st2 σ 0 14 1) (15 + 6 * w) 5 (nI r)) (15 + 6 * w) 9 (nI b)) (15 + 6 * w) 10 v) (15 + 6 * w) 7 0) := by
  have hz : zok (if σ (15 + 6 * w) 5 = -1 then 0 else 1) = true := by split <;> rfl
  unfold sX8_stick sX8_stick_0
  rw [c_ri3 σ hw, Option.bind_some]
  show sX8_stick_5 (nI w) (nI r) (nI b) v σ = _
  unfold sX8_stick_5
  rw [c_ri4 σ hr, Option.bind_some]
  show sX8_stick_10 (nI w) (nI r) (nI b) v σ = _
  unfold sX8_stick_10
  rw [c_ri16 σ hb, Option.bind_some]
  show sX8_stick_16 (nI w) (nI r) (nI b) v σ = _
  unfold sX8_stick_16
  rw [if_pos (vin_nI hw (by decide)), nI_clamp (show w < 2 ^ 31 by omega), k_hsb, Option.bind_some, st2_ne σ 14 1 (show 15 + 6 * w ≠ 0 by omega)]
  unfold sX8_stick_30 sX1_letStick sX1_letStick_0
  rw [if_pos (vin_nI hw (by decide)), nI_clamp (show w < 2 ^ 31 by omega), if_pos hv, Option.bind_some]
  unfold sX8_stick_45
  rw [if_pos hz]
theorem k_fix {σ : TS} {w : Nat} (hw : w < 3) : sX8_fix (nI w) σ = some (.inl (if σ (15 + 6 * w) 5 = -1 then 0 else 1), st2 σ (15 + 6 * w) 5 (-1)) := by
  have hz : zok (if σ (15 + 6 * w) 5 = -1 then 0 else 1) = true := by split <;> rfl
  unfold sX8_fix sX8_fix_0
  rw [c_ri3 σ hw, Option.bind_some]
  show sX8_fix_5 (nI w) σ = _
  unfold sX8_fix_5
  rw [if_pos (vin_nI hw (by decide)), nI_clamp (show w < 2 ^ 31 by omega), k_hsb, Option.bind_some]
  unfold sX8_fix_14
  rw [if_pos (vin_nI hw (by decide)), nI_clamp (show w < 2 ^ 31 by omega), if_pos hz]
theorem k_test {σ : TS} {w : Nat} (hw : w < 3) (h6 : σ (15 + 6 * w) 6 = 0) : sX8_test (nI w) σ = if σ (15 + 6 * w) 5 = -1 then some (.inl 1, st2 σ (15 + 6 * w) 7 1) else some (.inl 0, σ) := by
  unfold sX8_test sX8_test_0
  rw [c_ri3 σ hw, Option.bind_some]
  show sX8_test_5 (nI w) σ = _
  unfold sX8_test_5
  rw [if_pos (vin_nI hw (by decide)), nI_clamp (show w < 2 ^ 31 by omega), if_pos h6]
  show sX8_test_27 w σ = _
  unfold sX8_test_27
  rw [k_hsb, Option.bind_some]
  unfold sX8_test_31
  by_cases h : σ (15 + 6 * w) 5 = -1
  · rw [if_pos h, if_pos h, if_pos rfl]
  · rw [if_neg h, if_neg h, if_neg (show ¬ (1 : Int32) = 0 by decide)]
theorem k_low_go {σ : TS} (K : Nat) {c : Nat} (hc : c < 3) (h : σ (15 + 6 * c) 6 = 0) : sX8_lowestOn_2 (K + 1) (nI c) σ = sX8_lowestOn_2 K (nI (c + 1)) σ := by
  have hd : ∀ (x : Int32), sX8_lowestOn_2 (K + 1) x σ = (if ((3 : Int32)) ≤ x then some ((-1 : Int32), σ) else (if vin x 3 = true then (if (σ (15+6*(x.toNatClampNeg)) 6) = 0 then sX8_lowestOn_2 K (x + (1 : Int32)) σ else some (x, σ)) else none)) := fun _ => rfl
  rw [hd, if_neg (show ¬ (3 : Int32) ≤ nI c from nI_ge (b := 3) hc (by decide)), if_pos (vin_nI hc (by decide)), nI_clamp (show c < 2 ^ 31 by omega), if_pos h, nI_1]
theorem k_low_at {σ : TS} (K : Nat) {c : Nat} (hc : c < 3) (h : σ (15 + 6 * c) 6 ≠ 0) : sX8_lowestOn_2 (K + 1) (nI c) σ = some (nI c, σ) := by
  have hd : ∀ (x : Int32), sX8_lowestOn_2 (K + 1) x σ = (if ((3 : Int32)) ≤ x then some ((-1 : Int32), σ) else (if vin x 3 = true then (if (σ (15+6*(x.toNatClampNeg)) 6) = 0 then sX8_lowestOn_2 K (x + (1 : Int32)) σ else some (x, σ)) else none)) := fun _ => rfl
  rw [hd, if_neg (show ¬ (3 : Int32) ≤ nI c from nI_ge (b := 3) hc (by decide)), if_pos (vin_nI hc (by decide)), nI_clamp (show c < 2 ^ 31 by omega), if_neg h]
/-- w is off, the others are on: which of them is the lowest -/
theorem k_low {σ : TS} {w : Nat} (hw : w < 3) (h6 : σ (15 + 6 * w) 6 = 0) (hon : ∀ c, c < 3 → c ≠ w → σ (15 + 6 * c) 6 ≠ 0) : ∃ m, m < 3 ∧ m ≠ w ∧ sX8_lowestOn σ = some (nI m, σ) := by
  have h0 : sX8_lowestOn σ = sX8_lowestOn_2 4 (nI 0) σ := rfl
  by_cases hw0 : w = 0
  · subst hw0
    exact ⟨1, by decide, by decide, by rw [h0, k_low_go 3 (by decide) h6, k_low_at 2 (show 1 < 3 by decide) (hon 1 (by decide) (by decide))]⟩
  · exact ⟨0, by decide, fun h => hw0 h.symm, by rw [h0, k_low_at 3 (show 0 < 3 by decide) (hon 0 (by decide) (fun h => hw0 h.symm))]⟩
theorem k_back_no {σ : TS} {w : Nat} (hw : w < 3) (h6 : σ (15 + 6 * w) 6 = 0) (h7 : σ (15 + 6 * w) 7 = 0) (hon : ∀ c, c < 3 → c ≠ w → σ (15 + 6 * c) 6 ≠ 0) : sX8_back (nI w) σ = some (.inr 4, σ) := by
  obtain ⟨m, hm, hmw, hl⟩ := k_low hw h6 hon
  unfold sX8_back sX8_back_0
  rw [c_ri3 σ hw, Option.bind_some]
  show sX8_back_5 (nI w) σ = _
  unfold sX8_back_5
  rw [if_pos (vin_nI hw (by decide)), nI_clamp (show w < 2 ^ 31 by omega), hl, Option.bind_some]
  unfold sX8_back_16
  rw [if_pos h6, if_pos h7]
  rfl
theorem cp_at (k kf b : Nat) (hkf : k ≠ kf) (f : Nat → Int32) : ∀ d w (σ : TS) i, (w ≤ i ∧ i < w + d → cpT k kf b f d w σ k (b + i) = f i ∧ cpT k kf b f d w σ kf (b + i) = 0) ∧ ((i < w ∨ w + d ≤ i) → cpT k kf b f d w σ k (b + i) = σ k (b + i) ∧ cpT k kf b f d w σ kf (b + i) = σ kf (b + i)) := by
  intro d
  induction d with
  | zero =>
    intro w σ i
    exact ⟨fun h => absurd h (by omega), fun _ => ⟨rfl, rfl⟩⟩
  | succ d ih =>
    intro w σ i
    have he : cpT k kf b f (d + 1) w σ = cpT k kf b f d (w + 1) (st2 (st2 σ k (b + w) (f w)) kf (b + w) 0) := rfl
    obtain ⟨h1, h2⟩ := ih (w + 1) (st2 (st2 σ k (b + w) (f w)) kf (b + w) 0) i
    rw [he]
    refine ⟨fun h => ?_, fun h => ?_⟩
    · by_cases hi : i = w
      · subst hi
        obtain ⟨g1, g2⟩ := h2 (Or.inl (by omega))
        rw [g1, g2]
        exact ⟨by rw [st2_ne _ _ _ hkf, st2_eq], by rw [st2_eq]⟩
      · exact h1 ⟨by omega, by omega⟩
    · obtain ⟨g1, g2⟩ := h2 (by omega)
      rw [g1, g2]
      exact ⟨by rw [st2_ne _ _ _ hkf, st2_off _ _ (by omega)], by rw [st2_off _ _ (by omega), st2_ne _ _ _ (Ne.symm hkf)]⟩
/-- brought back: it is as the one m -/
theorem k_back {σ : TS} {w n : Nat} (hw : w < 3) (h6 : σ (15 + 6 * w) 6 = 0) (h7 : σ (15 + 6 * w) 7 ≠ 0) (hon : ∀ c, c < 3 → c ≠ w → σ (15 + 6 * c) 6 ≠ 0) (hn : n < 2 ^ 31) (hlog : σ 11 3 = nI n) (h2 : ∀ c, c < 3 → σ (15 + 6 * c) 2 = 0) : ∃ m u, m < 3 ∧ m ≠ w ∧ sX8_back (nI w) σ = some (.inl 3, u) ∧ (∀ i, i < 18 → u (17 + 6 * w) i = σ (17 + 6 * m) i ∧ u (18 + 6 * w) i = 0) ∧ u (15 + 6 * w) 4 = 0 ∧ u (15 + 6 * w) 6 = 1 ∧ u (15 + 6 * w) 2 = 0 ∧ (∀ j, j ≠ 2 → j ≠ 4 → j ≠ 6 → u (15 + 6 * w) j = σ (15 + 6 * w) j) ∧ u 11 3 = nI (n + 1) ∧ (∀ j, j ≠ 3 → u 11 j = σ 11 j) ∧ u 13 (n % 30) = nI w ∧ u 14 (n % 30) = 98 ∧ (∀ k, k ≠ 15 + 6 * w → k ≠ 17 + 6 * w → k ≠ 18 + 6 * w → k ≠ 11 → k ≠ 12 → k ≠ 13 → k ≠ 14 → u k = σ k) ∧ ∀ i, i ≠ n % 30 → u 13 i = σ 13 i ∧ u 14 i = σ 14 i := by
  obtain ⟨m, hm, hmw, hl⟩ := k_low hw h6 hon
  have hbl : sX4_becomeLike w m σ = some (0, cpT (17 + 6 * w) (18 + 6 * w) 0 (σ (17 + 6 * m)) 18 0 σ) := t_becomeLike (Ne.symm hmw) hw hm (σ (17 + 6 * m)) 18 0 σ rfl (fun _ _ => rfl)
  obtain ⟨κ, hκ⟩ : ∃ κ, κ = cpT (17 + 6 * w) (18 + 6 * w) 0 (σ (17 + 6 * m)) 18 0 σ := ⟨_, rfl⟩
  have k1 : ∀ a, a ≠ 17 + 6 * w → a ≠ 18 + 6 * w → κ a = σ a := fun a g1 g2 => by rw [hκ]; exact cpT_ne _ _ _ _ g1 g2 _ _ _
  have k2 : ∀ i, i < 18 → κ (17 + 6 * w) i = σ (17 + 6 * m) i ∧ κ (18 + 6 * w) i = 0 := fun i hi => by
    have h := (cp_at (17 + 6 * w) (18 + 6 * w) 0 (by omega) (σ (17 + 6 * m)) 18 0 σ i).1 ⟨by omega, by omega⟩
    rw [Nat.zero_add] at h
    rw [hκ]
    exact h
  rw [← hκ] at hbl
  obtain ⟨ρ, hρ⟩ : ∃ ρ, ρ = st2 (st2 (st2 κ (15 + 6 * w) 4 0) (15 + 6 * w) 2 0) (15 + 6 * w) 6 1 := ⟨_, rfl⟩
  have r1 : ∀ a, a ≠ 15 + 6 * w → ρ a = κ a := fun a g => by rw [hρ, st2_ne _ _ _ g, st2_ne _ _ _ g, st2_ne _ _ _ g]
  have hrl : sX1_resumeLike w m σ = some (0, ρ) := by
    unfold sX1_resumeLike sX1_resumeLike_0
    rw [hbl, Option.bind_some]
    unfold sX1_resumeLike_11
    rw [st2_ne κ 4 0 (show 15 + 6 * m ≠ 15 + 6 * w by omega), k1 _ (by omega) (by omega), h2 m hm, hρ]
  have hlg : ρ 11 3 = nI n := by rw [r1 11 (by omega), k1 11 (by omega) (by omega)]; exact hlog
  have hon3 : onb (logT w 98 ρ) = 3 := onb_3 fun c hc => by
    unfold logT
    rw [st2_ne _ _ _ (by omega), st2_ne _ _ _ (by omega), st2_ne _ _ _ (by omega), st2_ne _ _ _ (by omega)]
    by_cases hcw : c = w
    · subst hcw
      rw [hρ, st2_eq]
      decide
    · rw [r1 _ (by omega), k1 _ (by omega) (by omega)]
      exact hon c hc hcw
  have hi : (ρ 11 3).toNatClampNeg % 30 = n % 30 := by rw [hlg, nI_clamp hn]
  refine ⟨m, logT w 98 ρ, hm, hmw, ?_, fun i hi18 => ?_, ?_, ?_, ?_, fun j j1 j2 j3 => ?_, ?_, fun j hj => ?_, ?_, ?_, fun k a1 a2 a3 a4 a5 a6 a7 => ?_, fun i hin => ?_⟩
  · unfold sX8_back sX8_back_0
    rw [c_ri3 σ hw, Option.bind_some]
    show sX8_back_5 (nI w) σ = _
    unfold sX8_back_5
    rw [if_pos (vin_nI hw (by decide)), nI_clamp (show w < 2 ^ 31 by omega), hl, Option.bind_some]
    unfold sX8_back_16
    rw [if_pos h6, if_neg h7, if_neg (nI_ne_m1 (by omega))]
    show sX8_back_44 w (nI w) (nI m) σ = _
    unfold sX8_back_44
    rw [if_pos (vin_nI hm (by decide)), nI_clamp (show m < 2 ^ 31 by omega), hrl, Option.bind_some]
    unfold sX8_back_54
    rw [t_log w rfl hn hlg, Option.bind_some]
    unfold sX8_back_68
    rw [c_on, hon3, Option.bind_some]
    rfl
  · unfold logT
    rw [st2_ne _ _ _ (by omega), st2_ne _ _ _ (by omega), st2_ne _ _ _ (by omega), st2_ne _ _ _ (by omega), r1 _ (by omega), st2_ne _ _ _ (by omega), st2_ne _ _ _ (by omega), st2_ne _ _ _ (by omega), st2_ne _ _ _ (by omega), r1 _ (by omega)]
    exact k2 i hi18
  · unfold logT
    rw [st2_ne _ _ _ (by omega), st2_ne _ _ _ (by omega), st2_ne _ _ _ (by omega), st2_ne _ _ _ (by omega), hρ, st2_off _ _ (by omega), st2_off _ _ (by omega), st2_eq]
  · unfold logT
    rw [st2_ne _ _ _ (by omega), st2_ne _ _ _ (by omega), st2_ne _ _ _ (by omega), st2_ne _ _ _ (by omega), hρ, st2_eq]
  · unfold logT
    rw [st2_ne _ _ _ (by omega), st2_ne _ _ _ (by omega), st2_ne _ _ _ (by omega), st2_ne _ _ _ (by omega), hρ, st2_off _ _ (by omega), st2_eq]
  · unfold logT
    rw [st2_ne _ _ _ (by omega), st2_ne _ _ _ (by omega), st2_ne _ _ _ (by omega), st2_ne _ _ _ (by omega), hρ, st2_off _ _ (by omega), st2_off _ _ (by omega), st2_off _ _ (by omega), k1 _ (by omega) (by omega)]
  · unfold logT
    rw [st2_eq, hlg, nI_1]
  · unfold logT
    rw [st2_off _ _ (by omega), st2_ne _ _ _ (by omega), st2_ne _ _ _ (by omega), st2_ne _ _ _ (by omega), r1 11 (by omega), k1 11 (by omega) (by omega)]
  · unfold logT
    rw [hi, st2_ne _ _ _ (by omega), st2_ne _ _ _ (by omega), st2_eq]
  · unfold logT
    rw [hi, st2_ne _ _ _ (by omega), st2_eq]
  · unfold logT
    rw [st2_ne _ _ _ a4, st2_ne _ _ _ a7, st2_ne _ _ _ a6, st2_ne _ _ _ a5, r1 _ a1, k1 _ a2 a3]
  · unfold logT
    rw [hi]
    refine ⟨?_, ?_⟩
    · rw [st2_ne _ _ _ (by omega), st2_ne _ _ _ (by omega), st2_off _ _ (by omega), st2_ne _ _ _ (by omega), r1 13 (by omega), k1 13 (by omega) (by omega)]
    · rw [st2_ne _ _ _ (by omega), st2_off _ _ (by omega), st2_ne _ _ _ (by omega), st2_ne _ _ _ (by omega), r1 14 (by omega), k1 14 (by omega) (by omega)]
/-! the latest line -/
theorem k_line {σ : TS} {n : Nat} (h : σ 11 3 = nI (n + 1)) (hn : n < 30) : sX8_line 0 116 σ = some (.inl (σ 12 n), σ) ∧ sX8_line 0 99 σ = some (.inl (σ 13 n), σ) ∧ sX8_line 0 114 σ = some (.inl (σ 14 n), σ) := by
  have hk : sX3_countKept σ = some (if (30 : Int32) < σ 11 3 then 30 else σ 11 3, σ) := rfl
  have hpos : ∀ x : Int32, x = (if (30 : Int32) < σ 11 3 then 30 else σ 11 3) → (0 : Int32) < x := fun x hx => by
    rw [hx, h, if_neg (show ¬ (30 : Int32) < nI (n + 1) from nI_nlt (a := 30) (by omega) (by decide))]
    exact nI_lt (a := 0) (by omega) (by omega)
  have hm : (n + 1 - 1 - 0) % 30 = n := by
    rw [show n + 1 - 1 - 0 = n by omega]
    exact Nat.mod_eq_of_lt hn
  have e1 : sX3_timeOf (nI 0) σ = some (σ 12 n, σ) := by rw [t_tim (n := n + 1) h (by omega) (by omega), hm]
  have e2 : sX3_computerOf (nI 0) σ = some (σ 13 n, σ) := by rw [t_comp (n := n + 1) h (by omega) (by omega), hm]
  have e3 : sX3_letterOf (nI 0) σ = some (σ 14 n, σ) := by rw [t_let (n := n + 1) h (by omega) (by omega), hm]
  refine ⟨?_, ?_, ?_⟩
  · show sX8_line_26 0 116 σ = _
    unfold sX8_line_26
    rw [if_neg (show ¬ (0 : Int32) < 0 by decide), hk, Option.bind_some]
    unfold sX8_line_38
    rw [if_pos (hpos _ rfl), if_pos rfl, show (0 : Int32) = nI 0 from rfl, e1]
    rfl
  · show sX8_line_26 0 99 σ = _
    unfold sX8_line_26
    rw [if_neg (show ¬ (0 : Int32) < 0 by decide), hk, Option.bind_some]
    unfold sX8_line_38
    rw [if_pos (hpos _ rfl), if_neg (show ¬ (99 : Int32) = 116 by decide), if_pos rfl, show (0 : Int32) = nI 0 from rfl, e2]
    rfl
  · show sX8_line_26 0 114 σ = _
    unfold sX8_line_26
    rw [if_neg (show ¬ (0 : Int32) < 0 by decide), hk, Option.bind_some]
    unfold sX8_line_38
    rw [if_pos (hpos _ rfl), if_neg (show ¬ (114 : Int32) = 116 by decide), if_neg (show ¬ (114 : Int32) = 99 by decide), show (0 : Int32) = nI 0 from rfl, e3]
    rfl
/-! isPlain, isTrue -/
theorem k_plain {σ : TS} (h : ∀ i, i < 4 → σ 9 i = σ 10 i) : sX8_isPlain σ = some (1, σ) := by
  have hs : ∀ K i, i < 4 → sX8_isPlain_2 (K + 1) (nI i) σ = sX8_isPlain_2 K (nI (i + 1)) σ := fun K i hi => by
    rw [t_ip_def, if_neg (show ¬ (4 : Int32) ≤ nI i from nI_ge (b := 4) hi (by decide)), if_pos (vin_nI hi (by decide)), nI_clamp (show i < 2 ^ 31 by omega), if_pos (h i hi), nI_1]
  have h0 : sX8_isPlain σ = sX8_isPlain_2 5 (nI 0) σ := rfl
  rw [h0, hs 4 0 (by decide), hs 3 1 (by decide), hs 2 2 (by decide), hs 1 3 (by decide)]
  exact if_pos (show (4 : Int32) ≤ nI (3 + 1) by decide)
theorem k_tells {σ : TS} {n c i : Nat} (hT : σ 11 3 = nI n) (hn : n < 30) (hi : i < n) (h1 : σ 13 i = nI c) (hl : ∀ i, i < n → σ 14 i ≠ 98) : sX3_tellsOff (nI c) σ = some (1, σ) := by
  have td : ∀ F (x y : Int32), sX3_tellsOff_7 (F + 1) (nI c) x y σ = (if x ≤ y then some ((0 : Int32), σ) else ((sX3_computerOf y σ).bind (fun z => sX3_tellsOff_17 (sX3_tellsOff_7 F) (nI c) x y z.1 z.2))) := fun _ _ _ => rfl
  have key : ∀ d x F, x + d = n - 1 - i → d < F → sX3_tellsOff_7 F (nI c) (nI n) (nI x) σ = some (1, σ) := by
    intro d
    induction d with
    | zero =>
      intro x F hx hF
      obtain ⟨F', rfl⟩ : ∃ F', F = F' + 1 := ⟨F - 1, by omega⟩
      have hrow : (n - 1 - x) % 30 = i := by
        rw [show n - 1 - x = i by omega]
        exact Nat.mod_eq_of_lt (by omega)
      rw [td, if_neg (nI_ge (show x < n by omega) (by omega)), t_comp hT (by omega) (by omega), Option.bind_some]
      unfold sX3_tellsOff_17
      rw [hrow, if_pos h1, t_let hT (by omega) (by omega), hrow, Option.bind_some]
      unfold sX3_tellsOff_26
      rw [if_neg (hl i hi)]
      rfl
    | succ d ih =>
      intro x F hx hF
      obtain ⟨F', rfl⟩ : ∃ F', F = F' + 1 := ⟨F - 1, by omega⟩
      have hrow : (n - 1 - x) % 30 < n := Nat.lt_of_le_of_lt (Nat.mod_le _ _) (by omega)
      rw [td, if_neg (nI_ge (show x < n by omega) (by omega)), t_comp hT (by omega) (by omega), Option.bind_some]
      unfold sX3_tellsOff_17
      by_cases hc : σ 13 ((n - 1 - x) % 30) = nI c
      · rw [if_pos hc, t_let hT (by omega) (by omega), Option.bind_some]
        unfold sX3_tellsOff_26
        rw [if_neg (hl _ hrow)]
        rfl
      · rw [if_neg hc, nI_1]
        exact ih (x + 1) F' (by omega) (by omega)
  have hk : sX3_countKept σ = some (nI n, σ) := by
    show some ((if (30 : Int32) < σ 11 3 then (30 : Int32) else σ 11 3), σ) = _
    rw [hT, if_neg (show ¬ (30 : Int32) < nI n from nI_nlt (a := 30) (by omega) (by decide))]
  unfold sX3_tellsOff sX3_tellsOff_0
  rw [hk, Option.bind_some]
  exact key (n - 1 - i) 0 31 (by omega) (by omega)
theorem k_true {σ : TS} {n : Nat} (hpl : σ 0 14 = 0 → σ 0 15 = 0 → ∀ i, i < 4 → σ 9 i = σ 10 i) (h4 : ∀ c, c < 3 → σ (15 + 6 * c) 6 ≠ 0 → σ (15 + 6 * c) 4 < 3) (hT : σ 11 3 = nI n) (hn : n < 30) (hoff : ∀ c, c < 3 → σ (15 + 6 * c) 6 = 0 → ∃ i, i < n ∧ σ 13 i = nI c) (hl : (∃ c, c < 3 ∧ σ (15 + 6 * c) 6 = 0) → ∀ i, i < n → σ 14 i ≠ 98) : sX8_isTrue σ = some (1, σ) := by
  have hs : ∀ K c, c < 3 → sX8_isTrue_25 (K + 1) (nI c) σ = sX8_isTrue_25 K (nI (c + 1)) σ := fun K c hc => by
    rw [t_it_def, if_neg (show ¬ (3 : Int32) ≤ nI c from nI_ge (b := 3) hc (by decide)), if_pos (vin_nI hc (by decide)), nI_clamp (show c < 2 ^ 31 by omega)]
    unfold sX8_isTrue_57
    rw [if_pos (vin_nI hc (by decide)), nI_clamp (show c < 2 ^ 31 by omega)]
    unfold sX8_isTrue_92
    by_cases h6 : σ (15 + 6 * c) 6 = 0
    · obtain ⟨i, hi, h13⟩ := hoff c hc h6
      have hw : sX3_wasFull σ = some (0, σ) := by
        unfold sX3_wasFull sX3_wasFull_0
        rw [hT, if_pos (show nI n < (30 : Int32) from nI_lt (b := 30) hn (by decide))]
        rfl
      rw [if_pos h6, if_pos h6, hw, Option.bind_some]
      unfold sX8_isTrue_76
      rw [if_pos rfl, k_tells hT hn hi h13 (hl ⟨c, hc, h6⟩), Option.bind_some]
      unfold sX8_isTrue_87 sX8_isTrue_92
      rw [if_neg (show ¬ (1 : Int32) = 0 by decide), nI_1]
    · rw [if_neg h6, if_pos (h4 c hc h6), if_neg h6, nI_1]
  have h23 : sX8_isTrue_23 σ = some (1, σ) := by
    have h0 : sX8_isTrue_23 σ = sX8_isTrue_25 4 (nI 0) σ := rfl
    rw [h0, hs 3 0 (by decide), hs 2 1 (by decide), hs 1 2 (by decide)]
    exact if_pos (show (3 : Int32) ≤ nI (2 + 1) by decide)
  unfold sX8_isTrue sX8_isTrue_0
  by_cases h14 : σ 0 14 = 0
  · by_cases h15 : σ 0 15 = 0
    · rw [if_pos h14, if_pos h15, k_plain (hpl h14 h15), Option.bind_some]
      unfold sX8_isTrue_18
      rw [if_neg (show ¬ (1 : Int32) = 0 by decide), h23]
    · rw [if_pos h14, if_neg h15, h23]
  · rw [if_neg h14, h23]
