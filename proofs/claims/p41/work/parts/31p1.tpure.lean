/-! ===== the class alone: what a frame is made of ===== -/
def onb (σ : TS) : Nat := 0 + (if σ (15 + 6 * 0) 6 = 0 then 0 else 1) + (if σ (15 + 6 * 1) 6 = 0 then 0 else 1) + (if σ (15 + 6 * 2) 6 = 0 then 0 else 1)
theorem onb_3 {σ : TS} (h : ∀ c, c < 3 → σ (15 + 6 * c) 6 ≠ 0) : onb σ = 3 := by
  unfold onb
  rw [if_neg (h 0 (by decide)), if_neg (h 1 (by decide)), if_neg (h 2 (by decide))]
theorem onb_cg {σ ν : TS} (h : ∀ c, c < 3 → ν (15 + 6 * c) 6 = σ (15 + 6 * c) 6) : onb ν = onb σ := by
  unfold onb
  rw [h 0 (by decide), h 1 (by decide), h 2 (by decide)]
theorem onb_le (σ : TS) : onb σ ≤ 3 := by
  unfold onb
  split <;> split <;> split <;> decide
theorem onb_pos {σ : TS} {c : Nat} (hc : c < 3) (h : σ (15 + 6 * c) 6 ≠ 0) : onb σ ≠ 0 := by
  unfold onb
  rcases (show c = 0 ∨ c = 1 ∨ c = 2 by omega) with rfl | rfl | rfl
  · rw [if_neg h]
    omega
  · rw [if_neg h]
    omega
  · rw [if_neg h]
    omega
theorem c_on_st (σ : TS) (K a : Nat) {c : Nat} (hc : c < 3) : sX8_countOn_4 (K + 1) (nI a) (nI c) σ = sX8_countOn_4 K (nI (a + (if σ (15 + 6 * c) 6 = 0 then 0 else 1))) (nI (c + 1)) σ := by
  have hd : ∀ (x y : Int32), sX8_countOn_4 (K + 1) x y σ = (if ((3 : Int32)) ≤ y then some (x, σ) else (if vin y 3 = true then (if (σ (15+6*(y.toNatClampNeg)) 6) = 0 then sX8_countOn_24 (sX8_countOn_4 K) x y σ else sX8_countOn_24 (sX8_countOn_4 K) (x + (1 : Int32)) y σ) else none)) := fun _ _ => rfl
  rw [hd, if_neg (show ¬ (3 : Int32) ≤ nI c from nI_ge (b := 3) hc (by decide)), if_pos (vin_nI hc (by decide)), nI_clamp (show c < 2 ^ 31 by omega)]
  unfold sX8_countOn_24
  by_cases h : σ (15 + 6 * c) 6 = 0
  · rw [if_pos h, if_pos h, nI_1]
    rfl
  · rw [if_neg h, if_neg h, nI_1, nI_1]
theorem c_on (σ : TS) : sX8_countOn σ = some (nI (onb σ), σ) := by
  have h0 : sX8_countOn σ = sX8_countOn_4 4 (nI 0) (nI 0) σ := rfl
  rw [h0, c_on_st σ 3 0 (show 0 < 3 by decide), c_on_st σ 2 _ (show 1 < 3 by decide), c_on_st σ 1 _ (show 2 < 3 by decide)]
  exact if_pos (show (3 : Int32) ≤ nI (2 + 1) by decide)
/-! sensors as they are at first -/
def qS (σ : TS) : Prop := ∀ k, k < 4 → σ (66 + k) 0 = 0 ∧ σ (66 + k) 1 = 32767 ∧ σ (66 + k) 2 = 0 ∧ σ (66 + k) 3 = 0
theorem qS_cg {σ ν : TS} (h : ∀ k, 66 ≤ k → k < 70 → ν k = σ k) (hq : qS σ) : qS ν := fun k hk => by
  rw [h (66 + k) (by omega) (by omega)]
  exact hq k hk
theorem c_agree {σ : TS} {k : Nat} (h0 : σ (66 + k) 0 = 0) (h1 : σ (66 + k) 1 = 32767) (h2 : σ (66 + k) 2 = 0) (h3 : σ (66 + k) 3 = 0) : sX7_agree k σ = some (0, σ) := by
  unfold sX7_agree sX7_agree_0
  rw [h0, h1, h2, if_pos (show (if 0 ≤ (0 : Int32) - 0 then (0 : Int32) - 0 else 0 - ((0 : Int32) - 0)) ≤ 32767 by decide)]
  unfold sX7_agree_24
  rw [if_pos rfl]
  unfold sX7_agree_40
  rw [if_pos rfl]
  unfold sX7_agree_55 sX7_agree_68
  rw [st2_same (σ := σ) (k := 66 + k) (j := 3) h3, h0, st2_same (σ := σ) (k := 66 + k) (j := 2) h2, st2_same (σ := σ) (k := 66 + k) (j := 3) h3]
theorem c_24_st {σ : TS} (hq : qS σ) (K : Nat) {k : Nat} (hk : k < 4) : sX8_frame_24 (K + 1) (nI k) σ = sX8_frame_24 K (nI (k + 1)) σ := by
  have hd : ∀ (x : Int32), sX8_frame_24 (K + 1) x σ = (if ((4 : Int32)) ≤ x then sX8_frame_46 4 ((0 : Int32)) σ else (if vin x 4 = true then ((sX7_agree (x.toNatClampNeg) σ).bind (fun z => sX8_frame_38 (sX8_frame_24 K) x z.2)) else none)) := fun _ => rfl
  obtain ⟨h0, h1, h2, h3⟩ := hq k hk
  rw [hd, if_neg (show ¬ (4 : Int32) ≤ nI k from nI_ge (b := 4) hk (by decide)), if_pos (vin_nI hk (by decide)), nI_clamp (show k < 2 ^ 31 by omega), c_agree h0 h1 h2 h3, Option.bind_some]
  unfold sX8_frame_38
  rw [nI_1]
theorem c_22 {σ : TS} (hq : qS σ) : sX8_frame_22 σ = sX8_frame_46 4 (nI 0) σ := by
  have h0 : sX8_frame_22 σ = sX8_frame_24 5 (nI 0) σ := rfl
  rw [h0, c_24_st hq 4 (show 0 < 4 by decide), c_24_st hq 3 (show 1 < 4 by decide), c_24_st hq 2 (show 2 < 4 by decide), c_24_st hq 1 (show 3 < 4 by decide)]
  exact if_pos (show (4 : Int32) ≤ nI (3 + 1) by decide)
theorem c_head {σ : TS} (hq : qS σ) (h : onb σ ≠ 0) : sX8_frame σ = sX8_frame_46 4 (nI 0) (st2 σ 0 10 (σ 0 10 + 1)) := by
  have hb : onb (st2 σ 0 10 (σ 0 10 + 1)) = onb σ := onb_cg fun c hc => congrFun (st2_ne σ _ _ (by omega)) _
  have hl := onb_le σ
  unfold sX8_frame sX8_frame_0
  rw [c_on, hb, Option.bind_some]
  unfold sX8_frame_14
  rw [if_neg (nI_ne0 (by omega) (by omega)), c_22 (qS_cg (fun k h1 h2 => st2_ne σ _ _ (by omega)) hq)]
theorem c_head0 {σ : TS} (hq : qS σ) (h : onb σ = 0) : sX8_frame σ = sX8_frame_46 4 (nI 0) (st2 (st2 σ 0 10 (σ 0 10 + 1)) 0 15 1) := by
  have hb : onb (st2 σ 0 10 (σ 0 10 + 1)) = onb σ := onb_cg fun c hc => congrFun (st2_ne σ _ _ (by omega)) _
  unfold sX8_frame sX8_frame_0
  rw [c_on, hb, h, Option.bind_some]
  unfold sX8_frame_14
  rw [if_pos (show nI 0 = 0 from rfl)]
  exact c_22 (qS_cg (fun k h1 h2 => (st2_ne (k := 0) (k' := k) (st2 σ 0 10 (σ 0 10 + 1)) 15 1 (by omega)).trans (st2_ne (k := 0) (k' := k) σ 10 _ (by omega))) hq)
/-! clocks that stand, actuators without a fault -/
def qC (σ : TS) : Prop := (∀ c, c < 3 → σ (15 + 6 * c) 2 = 0 ∧ σ (15 + 6 * c) 3 = 0) ∧ ∀ c j, c < 3 → j < 3 → σ (19 + 6 * c) j = 0
def qA (σ : TS) : Prop := ∀ k, k < 4 → σ (70 + 2 * k) 2 = 0 ∧ ∀ j, j < 3 → σ (71 + 2 * k) j = 0
theorem c_tk {σ : TS} (hq : qC σ) {c : Nat} (hc : c < 3) : tkT c σ = σ := by
  unfold tkT
  refine st2_same ?_
  rw [(hq.1 c hc).1, (hq.1 c hc).2]
  decide
theorem c_tick {σ : TS} (hq : qC σ) : sX8_tickClocks σ = some (0, σ) := by
  rw [t_tick, c_tk hq (show 0 < 3 by decide), c_tk hq (show 1 < 3 by decide), c_tk hq (show 2 < 3 by decide)]
theorem c_hold {σ : TS} (hq : qC σ) : sX8_holdClocksTogether σ = some (0, σ) := by
  have e : ∀ a b d, a < 3 → b < 3 → d < 3 → md (σ (15 + 6 * a) 2) (σ (15 + 6 * b) 2 + σ (19 + 6 * b) a) (σ (15 + 6 * d) 2 + σ (19 + 6 * d) a) = 0 := fun a b d ha hb hd => by
    rw [(hq.1 a ha).1, (hq.1 b hb).1, (hq.1 d hd).1, hq.2 b a hb ha, hq.2 d a hd ha]
    decide
  rw [t_hold, e 0 1 2 (by decide) (by decide) (by decide), e 1 0 2 (by decide) (by decide) (by decide), e 2 0 1 (by decide) (by decide) (by decide), st2_same (hq.1 0 (by decide)).1, st2_same (hq.1 1 (by decide)).1, st2_same (hq.1 2 (by decide)).1]
theorem c_move {σ : TS} (hq : qA σ) {k : Nat} (hk : k < 4) (x : Int32) : sX0_move k x σ = some (0, st2 σ (70 + 2 * k) 1 x) := by
  obtain ⟨h2, hf⟩ := hq k hk
  unfold sX0_move sX0_move_0
  rw [hf 0 (by decide), hf 1 (by decide), hf 2 (by decide), if_pos (by decide)]
  unfold sX0_move_63
  rw [h2, if_pos rfl, hf 0 (by decide), hf 1 (by decide), hf 2 (by decide), t_middle, Option.bind_some]
  unfold sX0_move_97 sX0_move_98
  rw [show md 0 0 0 = 0 by decide, Int32.add_zero]
/-- the places behind a frame -/
def plc (σ : TS) : TS := st2 (st2 (st2 (st2 σ (70 + 2 * 0) 1 (σ 9 0)) (70 + 2 * 1) 1 (σ 9 1)) (70 + 2 * 2) 1 (σ 9 2)) (70 + 2 * 3) 1 (σ 9 3)
theorem plc_fr (σ : TS) {k : Nat} (h : k < 70) : plc σ k = σ k := by
  unfold plc
  rw [st2_ne _ _ _ (by omega), st2_ne _ _ _ (by omega), st2_ne _ _ _ (by omega), st2_ne _ _ _ (by omega)]
theorem plc_nj (σ : TS) (k : Nat) {j : Nat} (h : j ≠ 1) : plc σ k j = σ k j := by
  unfold plc
  rw [st2_off _ _ (fun g => h g.2), st2_off _ _ (fun g => h g.2), st2_off _ _ (fun g => h g.2), st2_off _ _ (fun g => h g.2)]
theorem plc_odd (σ : TS) {k : Nat} (h : k % 2 = 1) : plc σ k = σ k := by
  unfold plc
  rw [st2_ne _ _ _ (by omega), st2_ne _ _ _ (by omega), st2_ne _ _ _ (by omega), st2_ne _ _ _ (by omega)]
theorem plc_qA {σ : TS} (h : qA σ) : qA (plc σ) := fun k hk => ⟨by rw [plc_nj _ _ (by decide)]; exact (h k hk).1, fun j hj => by rw [plc_odd _ (by omega)]; exact (h k hk).2 j hj⟩
theorem c_101_st {σ : TS} (hq : qA σ) (K : Nat) {k : Nat} (hk : k < 4) : sX8_frame_101 (K + 1) (nI k) σ = sX8_frame_101 K (nI (k + 1)) (st2 σ (70 + 2 * k) 1 (σ 9 k)) := by
  have hd : ∀ (x : Int32), sX8_frame_101 (K + 1) x σ = (if ((4 : Int32)) ≤ x then ((sX8_countOn σ).bind (fun z => sX8_frame_131 z.1 z.2)) else (if vin x 4 = true then ((sX0_move (x.toNatClampNeg) (σ (9+0) (x.toNatClampNeg)) σ).bind (fun z => sX8_frame_121 (sX8_frame_101 K) x z.2)) else none)) := fun _ => rfl
  rw [hd, if_neg (show ¬ (4 : Int32) ≤ nI k from nI_ge (b := 4) hk (by decide)), if_pos (vin_nI hk (by decide)), nI_clamp (show k < 2 ^ 31 by omega), c_move hq hk, Option.bind_some]
  unfold sX8_frame_121
  rw [nI_1]
theorem qA_pl {σ : TS} (h : qA σ) {k : Nat} (hk : k < 4) (x : Int32) : qA (st2 σ (70 + 2 * k) 1 x) := fun i hi => ⟨by rw [st2_off _ _ (fun g => absurd g.2 (by decide))]; exact (h i hi).1, fun j hj => by rw [st2_ne _ _ _ (by omega)]; exact (h i hi).2 j hj⟩
theorem c_99 {σ : TS} (hq : qA σ) : sX8_frame_99 σ = some (nI (onb σ), plc σ) := by
  have h0 : sX8_frame_99 σ = sX8_frame_101 5 (nI 0) σ := rfl
  have q1 := qA_pl hq (show 0 < 4 by decide) (σ 9 0)
  have q2 := qA_pl q1 (show 1 < 4 by decide) (σ 9 1)
  have q3 := qA_pl q2 (show 2 < 4 by decide) (σ 9 2)
  rw [h0, c_101_st hq 4 (show 0 < 4 by decide), c_101_st q1 3 (show 1 < 4 by decide)]
  rw [show (st2 σ (70 + 2 * 0) 1 (σ 9 0)) 9 1 = σ 9 1 from rfl, c_101_st q2 2 (show 2 < 4 by decide)]
  rw [show (st2 (st2 σ (70 + 2 * 0) 1 (σ 9 0)) (70 + 2 * 1) 1 (σ 9 1)) 9 2 = σ 9 2 from rfl, c_101_st q3 1 (show 3 < 4 by decide)]
  rw [show (st2 (st2 (st2 σ (70 + 2 * 0) 1 (σ 9 0)) (70 + 2 * 1) 1 (σ 9 1)) (70 + 2 * 2) 1 (σ 9 2)) 9 3 = σ 9 3 from rfl]
  have he : sX8_frame_101 1 (nI (3 + 1)) (plc σ) = ((sX8_countOn (plc σ)).bind (fun z => sX8_frame_131 z.1 z.2)) := if_pos (show (4 : Int32) ≤ nI (3 + 1) by decide)
  show sX8_frame_101 1 (nI (3 + 1)) (plc σ) = _
  rw [he, c_on, Option.bind_some, onb_cg (σ := σ) (ν := plc σ) (fun c hc => congrFun (plc_fr σ (by omega)) _)]
  rfl
theorem c_tail {σ : TS} (hc : qC σ) (ha : qA σ) : sX8_frame_83 σ = some (nI (onb σ), plc σ) := by
  unfold sX8_frame_83
  rw [c_tick hc, Option.bind_some]
  unfold sX8_frame_87
  rw [c_on, Option.bind_some]
  unfold sX8_frame_91
  by_cases h : nI (onb σ) = (3 : Int32)
  · rw [if_pos h, c_hold hc, Option.bind_some, c_99 ha]
  · rw [if_neg h, c_99 ha]
/-! slots -/
theorem c_46 {σ : TS} {m : Nat} (h11 : σ 0 11 = nI m) (hm : m < 2) (K : Nat) {i : Nat} (hi : i < 3) : sX8_frame_46 (K + 1) (nI i) σ = (if σ (3 + m) i = -1 then sX8_frame_46 K (nI (i + 1)) σ else ((sX8_runSlot (σ (3 + m) i) σ).bind (fun z => sX8_frame_46 K (nI (i + 1)) z.2))) := by
  have hd : ∀ (x : Int32), sX8_frame_46 (K + 1) x σ = (if ((3 : Int32)) ≤ x then ((sX8_scrub σ).bind (fun z => sX8_frame_83 z.2)) else (if vin (σ 0 11) 2 = true then (if vin x 3 = true then (if (σ (3+((σ 0 11).toNatClampNeg)) (x.toNatClampNeg)) = ((-1 : Int32)) then sX8_frame_73 (sX8_frame_46 K) x σ else ((sX8_runSlot (σ (3+((σ 0 11).toNatClampNeg)) (x.toNatClampNeg)) σ).bind (fun z => sX8_frame_73 (sX8_frame_46 K) x z.2))) else none) else none)) := fun _ => rfl
  rw [hd, if_neg (show ¬ (3 : Int32) ≤ nI i from nI_ge (b := 3) hi (by decide)), h11, if_pos (vin_nI hm (by decide)), if_pos (vin_nI hi (by decide)), nI_clamp (show i < 2 ^ 31 by omega), nI_clamp (show m < 2 ^ 31 by omega)]
  unfold sX8_frame_73
  rw [nI_1]
theorem c_46e (σ : TS) (K : Nat) : sX8_frame_46 (K + 1) (nI (2 + 1)) σ = ((sX8_scrub σ).bind (fun z => sX8_frame_83 z.2)) := if_pos (show (3 : Int32) ≤ nI (2 + 1) by decide)
/-! the scrubber over words without flips -/
theorem c_dd0 {σ : TS} {c i : Nat} (h : σ (18 + 6 * c) i = 0) : tdd c i σ = σ := by
  unfold tdd
  rw [h, cnt_z, nI_0, Int32.add_zero, st2_same h, st2_same rfl]
theorem c_scrub0 {σ : TS} {τ : Nat} (h10 : σ 0 10 = nI τ) (hτ : τ < 2 ^ 31) (hz : ∀ c, c < 3 → ∀ i, i < 18 → σ (18 + 6 * c) i = 0) : sX8_scrub σ = some (0, σ) := by
  have hi : τ % 18 < 18 := Nat.mod_lt _ (by decide)
  have hs : ∀ K c, c < 3 → sX8_scrub_12 (K + 1) (nI (τ % 18)) (nI c) σ = sX8_scrub_12 K (nI (τ % 18)) (nI (c + 1)) σ := fun K c hc => by
    have h0 := hz c hc _ hi
    rw [t_scr_def, if_neg (show ¬ (3 : Int32) ≤ nI c from nI_ge (b := 3) hc (by decide)), if_pos (vin_nI hc (by decide)), nI_clamp (show c < 2 ^ 31 by omega)]
    unfold sX8_scrub_52
    by_cases h6 : σ (15 + 6 * c) 6 = 0
    · rw [if_pos h6, nI_1]
    · rw [if_neg h6, t_mend_ok c hi (by rw [h0]; decide) (by rw [h0, cnt_z]; decide), Option.bind_some, c_dd0 h0]
      unfold sX8_scrub_42 sX8_scrub_52
      rw [if_neg (show ¬ (1 : Int32) = 0 by decide), nI_1]
  have h0 : sX8_scrub σ = ((sJ9_floorMod_7cf53 (σ 0 10) (18 : Int32) σ).bind (fun z => sX8_scrub_9 z.1 z.2)) := rfl
  rw [h0, h10, fm_18 σ hτ, Option.bind_some]
  show sX8_scrub_12 4 (nI (τ % 18)) (nI 0) σ = _
  rw [hs 3 0 (by decide), hs 2 1 (by decide), hs 1 2 (by decide)]
  exact if_pos (show (3 : Int32) ≤ nI (2 + 1) by decide)
/-! a slot begins -/
theorem c_beg_st (c : Nat) (K : Nat) {r : Nat} (hr : r < 4) (ν : TS) : sX1_begin_7 (K + 1) c (nI r) ν = sX1_begin_7 K c (nI (r + 1)) (st2 ν (20 + 6 * c) r (stkT ν c r 0)) := by
  have hd : ∀ (x : Int32), sX1_begin_7 (K + 1) c x ν = (if ((4 : Int32)) ≤ x then some (0, ν) else ((sX1_change c x ((0 : Int32)) ν).bind (fun z => sX1_begin_18 (sX1_begin_7 K) c x z.2))) := fun _ => rfl
  rw [hd, if_neg (show ¬ (4 : Int32) ≤ nI r from nI_ge (b := 4) hr (by decide)), t_change ν c hr, Option.bind_some]
  unfold sX1_begin_18
  rw [nI_1]
theorem c_beg (σ : TS) (c : Nat) : ∃ u, sX1_begin c σ = some (0, u) ∧ u (15 + 6 * c) 11 = 0 ∧ ∀ k j, ¬ (k = 15 + 6 * c ∧ j = 11) → k ≠ 20 + 6 * c → u k j = σ k j := by
  have h0 : sX1_begin c σ = sX1_begin_7 5 c (nI 0) (st2 σ (15 + 6 * c) 11 0) := rfl
  rw [h0, c_beg_st c 4 (show 0 < 4 by decide), c_beg_st c 3 (show 1 < 4 by decide), c_beg_st c 2 (show 2 < 4 by decide), c_beg_st c 1 (show 3 < 4 by decide)]
  refine ⟨_, if_pos (show (4 : Int32) ≤ nI (3 + 1) by decide), ?_, fun k j h1 h2 => ?_⟩
  · rw [st2_ne _ _ _ (by omega), st2_ne _ _ _ (by omega), st2_ne _ _ _ (by omega), st2_ne _ _ _ (by omega), st2_eq]
  · rw [st2_ne _ _ _ h2, st2_ne _ _ _ h2, st2_ne _ _ _ h2, st2_ne _ _ _ h2, st2_off _ _ h1]
theorem c_begs (σ : TS) {p : Nat} (hp : p < 3) : ∃ u, sX8_runSlot (nI p) σ = sX8_runSlot_38 31 p (nI p) (nI 0) u ∧ (∀ c, c < 4 → u (15 + 6 * c) 11 = 0) ∧ ∀ k j, (∀ c, c < 4 → ¬ (k = 15 + 6 * c ∧ j = 11) ∧ k ≠ 20 + 6 * c) → u k j = σ k j := by
  have hs : ∀ K c ν u, c < 3 → sX1_begin c ν = some (0, u) → sX8_runSlot_9 (K + 1) p (nI p) (nI c) ν = sX8_runSlot_9 K p (nI p) (nI (c + 1)) u := fun K c ν u hc hb => by
    have hd : ∀ (x : Int32), sX8_runSlot_9 (K + 1) p (nI p) x ν = (if ((3 : Int32)) ≤ x then ((sX1_begin 3 ν).bind (fun z => sX8_runSlot_36 p (nI p) z.2)) else (if vin x 3 = true then ((sX1_begin (x.toNatClampNeg) ν).bind (fun z => sX8_runSlot_23 (sX8_runSlot_9 K) p (nI p) x z.2)) else none)) := fun _ => rfl
    rw [hd, if_neg (show ¬ (3 : Int32) ≤ nI c from nI_ge (b := 3) hc (by decide)), if_pos (vin_nI hc (by decide)), nI_clamp (show c < 2 ^ 31 by omega), hb, Option.bind_some]
    unfold sX8_runSlot_23
    rw [nI_1]
  obtain ⟨u0, a0, b0, f0⟩ := c_beg σ 0
  obtain ⟨u1, a1, b1, f1⟩ := c_beg u0 1
  obtain ⟨u2, a2, b2, f2⟩ := c_beg u1 2
  obtain ⟨u3, a3, b3, f3⟩ := c_beg u2 3
  refine ⟨u3, ?_, fun c hc => ?_, fun k j h => ?_⟩
  · unfold sX8_runSlot sX8_runSlot_0
    rw [if_pos (vin_nI hp (by decide)), nI_clamp (show p < 2 ^ 31 by omega)]
    show sX8_runSlot_9 4 p (nI p) (nI 0) σ = _
    rw [hs 3 0 σ u0 (by decide) a0, hs 2 1 u0 u1 (by decide) a1, hs 1 2 u1 u2 (by decide) a2]
    have he : sX8_runSlot_9 1 p (nI p) (nI (2 + 1)) u2 = ((sX1_begin 3 u2).bind (fun z => sX8_runSlot_36 p (nI p) z.2)) := if_pos (show (3 : Int32) ≤ nI (2 + 1) by decide)
    rw [he, a3]
    rfl
  · rcases (show c = 0 ∨ c = 1 ∨ c = 2 ∨ c = 3 by omega) with rfl | rfl | rfl | rfl
    · rw [f3 _ _ (by omega) (by omega), f2 _ _ (by omega) (by omega), f1 _ _ (by omega) (by omega), b0]
    · rw [f3 _ _ (by omega) (by omega), f2 _ _ (by omega) (by omega), b1]
    · rw [f3 _ _ (by omega) (by omega), b2]
    · exact b3
  · rw [f3 k j (h 3 (by decide)).1 (h 3 (by decide)).2, f2 k j (h 2 (by decide)).1 (h 2 (by decide)).2, f1 k j (h 1 (by decide)).1 (h 1 (by decide)).2, f0 k j (h 0 (by decide)).1 (h 0 (by decide)).2]
