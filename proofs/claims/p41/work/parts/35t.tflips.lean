/-! ===== flips: bits that flip, mended or shut off; the law's own rows beside the class's ===== -/
def lk1 (i k : Nat) (ρ : TS) : TS := if ρ 5 k = 0 then (if nI (cntb (ρ (1 + k) i)) = 1 then st2 (st2 ρ 4 k (ρ 4 k + 1)) (1 + k) i 0 else ρ) else ρ
def lk2 (k : Nat) (x : Int32) (ρ : TS) : TS := st2 ρ 5 k (if ρ 5 k = 0 then (if nI (cntb x) ≤ 1 then 0 else 1) else 1)
def lkT (i k : Nat) (ρ : TS) : TS := lk2 k (ρ (1 + k) i) (lk1 i k ρ)
def lkR (i : Nat) (ρ : TS) : TS := lkT i 2 (lkT i 1 (lkT i 0 ρ))
def lkN (i : Nat) (ρ : TS) : Nat := 0 + (if lkT i 0 ρ 5 0 = 0 then 1 else 0) + (if lkT i 1 (lkT i 0 ρ) 5 1 = 0 then 1 else 0) + (if lkR i ρ 5 2 = 0 then 1 else 0)
theorem lk1_5 (i k : Nat) {ρ : TS} (hk : k < 3) (c : Nat) : lk1 i k ρ 5 c = ρ 5 c := by
  unfold lk1
  split
  · split
    · rw [st2_ne _ _ _ (by omega), st2_ne _ _ _ (by omega)]
    · rfl
  · rfl
theorem lkT_5 (i k : Nat) {ρ : TS} (hk : k < 3) {c : Nat} (hc : c ≠ k) : lkT i k ρ 5 c = ρ 5 c := by
  unfold lkT lk2
  rw [st2_nj _ _ hc, lk1_5 i k hk]
/-- law's rows and class's -/
def FLs (τ n : Nat) (ρ σ : TS) : Prop := (qS σ ∧ qC σ ∧ qA σ) ∧ (σ 0 10 = nI τ ∧ σ 0 11 = nI 0 ∧ ∀ i, i < 3 → σ 3 i = -1) ∧ (∀ c, c < 3 → ∀ i, i < 18 → (σ (18 + 6 * c) i = ρ (1 + c) i ∧ 0 ≤ (ρ (1 + c) i).toInt ∧ (ρ (1 + c) i).toInt ≤ 65535) ∧ σ (17 + 6 * c) i = 0) ∧ (∀ c, c < 3 → σ (16 + 6 * c) 2 = ρ 4 c ∧ ((σ (15 + 6 * c) 6 = 1 ∧ ρ 5 c = 0) ∨ (σ (15 + 6 * c) 6 = 0 ∧ ρ 5 c = 1)) ∧ σ (15 + 6 * c) 4 = 0) ∧ (∀ i, i < 4 → σ 9 i = σ 10 i) ∧ σ 11 3 = nI n ∧ n + onb σ = 3 ∧ (∀ i, i < n → σ 14 i ≠ 98) ∧ ∀ c, c < 3 → σ (15 + 6 * c) 6 = 0 → ∃ i, i < n ∧ σ 13 i = nI c
/-- what the frame touches beside: the time, whether it is past, the places -/
theorem FL_cg {τ τ' n : Nat} {ρ σ ν : TS} (h : FLs τ n ρ σ) (hq : qA ν) (h10 : ν 0 10 = nI τ') (hx : ∀ a j, a < 70 → ¬ (a = 0 ∧ (j = 10 ∨ j = 14 ∨ j = 15)) → ν a j = σ a j) : FLs τ' n ρ ν := by
  obtain ⟨⟨hqS, hqC, -⟩, ⟨-, h11, h3⟩, hr, hc, hp, l3, hn, l14, l13⟩ := h
  refine ⟨⟨qS_cj (fun a j h1 h2 => hx a j h2 (by omega)) hqS, qC_cg (fun c hc => ⟨hx _ _ (by omega) (by omega), hx _ _ (by omega) (by omega), fun j => hx _ _ (by omega) (by omega)⟩) hqC, hq⟩, ⟨h10, (hx _ _ (by omega) (by omega)).trans h11, fun i hi => (hx _ _ (by omega) (by omega)).trans (h3 i hi)⟩, fun c hc i hi => ?_, fun c hc3 => ?_, fun i hi => ?_, ?_, ?_, fun i hi => ?_, fun c hc h6 => ?_⟩
  · obtain ⟨⟨a, b⟩, d⟩ := hr c hc i hi
    exact ⟨⟨(hx _ _ (by omega) (by omega)).trans a, b⟩, (hx _ _ (by omega) (by omega)).trans d⟩
  · obtain ⟨a, b, d⟩ := hc c hc3
    rw [hx _ _ (by omega) (by omega), hx _ _ (by omega) (by omega), hx _ _ (by omega) (by omega)]
    exact ⟨a, b, d⟩
  · rw [hx _ _ (by omega) (by omega), hx _ _ (by omega) (by omega)]
    exact hp i hi
  · rw [hx _ _ (by omega) (by omega)]
    exact l3
  · rw [onb_cg (fun c hc => hx _ _ (by omega) (by omega))]
    exact hn
  · rw [hx _ _ (by omega) (by omega)]
    exact l14 i hi
  · rw [hx _ _ (by omega) (by omega)] at h6
    obtain ⟨i, hi, e⟩ := l13 c hc h6
    exact ⟨i, hi, by rw [hx _ _ (by omega) (by omega)]; exact e⟩
theorem FL_0 : FLs 0 0 (fun _ _ => 0) T0 := by
  refine ⟨⟨t0_S, t0_C, t0_A⟩, ⟨rfl, rfl, fun i hi => ?_⟩, fun c hc i hi => ⟨⟨t0_Z c (by omega) i hi, (show (0 : Int) ≤ (0 : Int32).toInt by decide), (show (0 : Int32).toInt ≤ 65535 by decide)⟩, t0_w c hc i⟩, fun c hc => ⟨t0_m c hc, Or.inl ⟨t0_6 c hc, rfl⟩, t0_4 c hc⟩, fun i hi => ?_, rfl, ?_, fun i hi => absurd hi (by omega), fun c hc h6 => ?_⟩
  · exact match i, hi with
      | 0, _ => rfl
      | 1, _ => rfl
      | 2, _ => rfl
  · exact match i, hi with
      | 0, _ => rfl
      | 1, _ => rfl
      | 2, _ => rfl
      | 3, _ => rfl
  · rw [onb_3 (fun c hc => by rw [t0_6 c hc]; decide)]
  · rw [t0_6 c hc] at h6
    exact absurd h6 (by decide)
theorem onb_off {σ ν : TS} {c : Nat} (hc : c < 3) (h : σ (15 + 6 * c) 6 ≠ 0) (h0 : ν (15 + 6 * c) 6 = 0) (hx : ∀ d, d < 3 → d ≠ c → ν (15 + 6 * d) 6 = σ (15 + 6 * d) 6) : onb ν + 1 = onb σ := by
  unfold onb
  rcases (show c = 0 ∨ c = 1 ∨ c = 2 by omega) with rfl | rfl | rfl
  · rw [hx 1 (by decide) (by decide), hx 2 (by decide) (by decide), if_pos h0, if_neg h]
    omega
  · rw [hx 0 (by decide) (by decide), hx 2 (by decide) (by decide), if_pos h0, if_neg h]
    omega
  · rw [hx 0 (by decide) (by decide), hx 1 (by decide) (by decide), if_pos h0, if_neg h]
/-- the scrubber by a computer -/
theorem FL_scr {τ n i c : Nat} {ρ σ : TS} (hc : c < 3) (hi : i < 18) (h : FLs τ n ρ σ) : ∃ n' u, (∀ K, sX8_scrub_12 (K + 1) (nI i) (nI c) σ = sX8_scrub_12 K (nI i) (nI (c + 1)) u) ∧ FLs τ n' (lkT i c ρ) u := by
  obtain ⟨hb, hz⟩ := id (h.2.2.1 c hc i hi)
  obtain ⟨hm, hon, h4⟩ := h.2.2.2.1 c hc
  have hd : ∀ K, sX8_scrub_12 (K + 1) (nI i) (nI c) σ = (if (σ (15 + 6 * c) 6) = 0 then sX8_scrub_12 K (nI i) (nI (c + 1)) σ else ((sX4_mend c (nI i) σ).bind (fun z => sX8_scrub_42 (sX8_scrub_12 K) (nI i) (nI c) z.1 z.2))) := fun K => by
    rw [t_scr_def, if_neg (show ¬ (3 : Int32) ≤ nI c from nI_ge (b := 3) hc (by decide)), if_pos (vin_nI hc (by decide)), nI_clamp (show c < 2 ^ 31 by omega)]
    unfold sX8_scrub_52
    rw [nI_1]
  rcases hon with ⟨h6, h5⟩ | ⟨h6, h5⟩
  · have h6' : ¬ σ (15 + 6 * c) 6 = 0 := by
      rw [h6]
      decide
    have hr : 0 ≤ (σ (18 + 6 * c) i).toInt ∧ (σ (18 + 6 * c) i).toInt ≤ 65535 := by
      rw [hb.1]
      exact hb.2
    have hN := cnt_16 hb.2
    by_cases h1 : cntb (ρ (1 + c) i) ≤ 1
    · have hk : ∀ K, sX8_scrub_12 (K + 1) (nI i) (nI c) σ = sX8_scrub_12 K (nI i) (nI (c + 1)) (tdd c i σ) := fun K => by
        rw [hd, if_neg h6', t_mend_ok c hi hr (by rw [hb.1]; exact h1), Option.bind_some]
        unfold sX8_scrub_42 sX8_scrub_52
        rw [if_neg (show ¬ (1 : Int32) = 0 by decide), nI_1]
      by_cases h0 : cntb (ρ (1 + c) i) = 0
      · have hρ0 := cnt_0 hb.2 h0
        have he : lkT i c ρ = ρ := by
          have e1 : lk1 i c ρ = ρ := by
            unfold lk1
            rw [if_pos h5, h0, if_neg (show ¬ nI 0 = 1 by decide)]
          unfold lkT lk2
          rw [e1, if_pos h5, if_pos (show nI (cntb (ρ (1 + c) i)) ≤ (1 : Int32) from nI_le (b := 1) h1 (by decide)), st2_same h5]
        rw [he]
        exact ⟨n, tdd c i σ, hk, by rw [c_dd0 (by rw [hb.1]; exact hρ0)]; exact h⟩
      · have h1' : cntb (ρ (1 + c) i) = 1 := by omega
        obtain ⟨ν, hν⟩ : ∃ ν, ν = tdd c i σ := ⟨_, rfl⟩
        obtain ⟨ρ', hρ'⟩ : ∃ ρ', ρ' = st2 (st2 ρ 4 c (ρ 4 c + 1)) (1 + c) i 0 := ⟨_, rfl⟩
        have he : lkT i c ρ = ρ' := by
          have e1 : lk1 i c ρ = ρ' := by
            unfold lk1
            rw [if_pos h5, h1', if_pos (show nI 1 = 1 from rfl), hρ']
          have e2 : ρ' 5 c = 0 := by
            rw [hρ', st2_ne _ _ _ (by omega), st2_ne _ _ _ (by omega)]
            exact h5
          unfold lkT lk2
          rw [e1, if_pos e2, if_pos (show nI (cntb (ρ (1 + c) i)) ≤ (1 : Int32) from nI_le (b := 1) h1 (by decide)), st2_same e2]
        have nx : ∀ a j, ¬ (a = 18 + 6 * c ∧ j = i) → ¬ (a = 16 + 6 * c ∧ j = 2) → ν a j = σ a j := fun a j g1 g2 => by
          rw [hν]
          unfold tdd
          rw [st2_off _ _ g2, st2_off _ _ g1]
        have n1 : ν (18 + 6 * c) i = 0 := by
          rw [hν]
          unfold tdd
          rw [st2_ne _ _ _ (by omega), st2_eq]
        have n2 : ν (16 + 6 * c) 2 = ρ 4 c + 1 := by
          rw [hν]
          unfold tdd
          rw [st2_eq, hb.1, h1', hm]
          rfl
        have rx : ∀ a j, ¬ (a = 4 ∧ j = c) → ¬ (a = 1 + c ∧ j = i) → ρ' a j = ρ a j := fun a j g1 g2 => by rw [hρ', st2_off _ _ g2, st2_off _ _ g1]
        have r1 : ρ' (1 + c) i = 0 := by rw [hρ', st2_eq]
        have r2 : ρ' 4 c = ρ 4 c + 1 := by rw [hρ', st2_ne _ _ _ (by omega), st2_eq]
        rw [← hν] at hk
        rw [he]
        refine ⟨n, ν, hk, ?_⟩
        obtain ⟨⟨hqS, hqC, hqA⟩, ⟨h10, h11, h3⟩, hrs, hcs, hp, l3, hn, l14, l13⟩ := h
        refine ⟨⟨qS_cj (fun a j g1 g2 => nx a j (by omega) (by omega)) hqS, qC_cg (fun d hd => ⟨nx _ _ (by omega) (by omega), nx _ _ (by omega) (by omega), fun j => nx _ _ (by omega) (by omega)⟩) hqC, qA_cg (fun a j g => nx a j (by omega) (by omega)) hqA⟩, ⟨(nx _ _ (by omega) (by omega)).trans h10, (nx _ _ (by omega) (by omega)).trans h11, fun k hk3 => (nx _ _ (by omega) (by omega)).trans (h3 k hk3)⟩, fun d hd3 k hk18 => ?_, fun d hd3 => ?_, fun k hk4 => ?_, ?_, ?_, fun k hk3 => ?_, fun d hd3 g6 => ?_⟩
        · refine ⟨?_, (nx _ _ (by omega) (by omega)).trans (hrs d hd3 k hk18).2⟩
          by_cases g : d = c ∧ k = i
          · obtain ⟨rfl, rfl⟩ := g
            rw [n1, r1]
            exact ⟨rfl, by decide, by decide⟩
          · rw [nx _ _ (by omega) (by omega), rx _ _ (by omega) (by omega)]
            exact (hrs d hd3 k hk18).1
        · obtain ⟨a, b, f⟩ := hcs d hd3
          rw [nx (15 + 6 * d) 6 (by omega) (by omega), nx (15 + 6 * d) 4 (by omega) (by omega), rx 5 d (by omega) (by omega)]
          refine ⟨?_, b, f⟩
          by_cases g : d = c
          · subst g
            rw [n2, r2]
          · rw [nx _ _ (by omega) (by omega), rx _ _ (by omega) (by omega)]
            exact a
        · rw [nx _ _ (by omega) (by omega), nx _ _ (by omega) (by omega)]
          exact hp k hk4
        · rw [nx _ _ (by omega) (by omega)]
          exact l3
        · rw [onb_cg (fun d hd => nx _ _ (by omega) (by omega))]
          exact hn
        · rw [nx _ _ (by omega) (by omega)]
          exact l14 k hk3
        · rw [nx _ _ (by omega) (by omega)] at g6
          obtain ⟨k, hk3, e⟩ := l13 d hd3 g6
          exact ⟨k, hk3, by rw [nx _ _ (by omega) (by omega)]; exact e⟩
    · have hn3 : n < 3 := by
        have := onb_pos hc h6'
        have := h.2.2.2.2.2.2.1
        omega
      have l3 := h.2.2.2.2.2.1
      obtain ⟨ν, hν⟩ : ∃ ν, ν = offT c 109 σ := ⟨_, rfl⟩
      have hk : ∀ K, sX8_scrub_12 (K + 1) (nI i) (nI c) σ = sX8_scrub_12 K (nI i) (nI (c + 1)) ν := fun K => by
        rw [hd, if_neg h6', t_mend_bad c hi hr (by rw [hb.1]; exact h1), Option.bind_some]
        unfold sX8_scrub_42 sX8_scrub_52
        rw [if_pos (show (0 : Int32) = 0 from rfl), t_off (n := n) hc (by decide) (by omega) l3, Option.bind_some, nI_1, hν]
      obtain ⟨ρ', hρ'⟩ : ∃ ρ', ρ' = st2 ρ 5 c 1 := ⟨_, rfl⟩
      have he : lkT i c ρ = ρ' := by
        have e1 : lk1 i c ρ = ρ := by
          unfold lk1
          rw [if_pos h5, if_neg (show ¬ nI (cntb (ρ (1 + c) i)) = 1 from fun g => h1 (by have := (nI_eq (b := 1) (by omega) (by decide)).mp g; omega))]
        unfold lkT lk2
        rw [e1, if_pos h5, if_neg (show ¬ nI (cntb (ρ (1 + c) i)) ≤ (1 : Int32) from nI_ge (a := 1) (by omega) (by omega)), hρ']
      have s3 : (st2 (st2 σ (15 + 6 * c) 6 0) (15 + 6 * c) 7 0) 11 3 = nI n := by rw [st2_ne _ _ _ (by omega), st2_ne _ _ _ (by omega)]; exact l3
      have hmod : n % 30 = n := Nat.mod_eq_of_lt (by omega)
      have hcl : (nI n).toNatClampNeg = n := nI_clamp (by omega)
      have nx : ∀ a j, ¬ (a = 15 + 6 * c ∧ (j = 6 ∨ j = 7)) → a < 11 ∨ 14 < a → ν a j = σ a j := fun a j g1 g2 => by
        rw [hν]
        unfold offT logT
        rw [st2_ne _ _ _ (by omega), st2_ne _ _ _ (by omega), st2_ne _ _ _ (by omega), st2_ne _ _ _ (by omega), st2_off _ _ (by omega), st2_off _ _ (by omega)]
      have n6 : ν (15 + 6 * c) 6 = 0 := by
        rw [hν]
        unfold offT logT
        rw [st2_ne _ _ _ (by omega), st2_ne _ _ _ (by omega), st2_ne _ _ _ (by omega), st2_ne _ _ _ (by omega), st2_off _ _ (by omega), st2_eq]
      have n3 : ν 11 3 = nI (n + 1) := by
        rw [hν]
        unfold offT logT
        rw [st2_eq, s3, nI_1]
      have n13 : ∀ k, ν 13 k = if k = n then nI c else σ 13 k := fun k => by
        rw [hν]
        unfold offT logT
        rw [s3, hcl, hmod, st2_ne _ _ _ (by omega), st2_ne _ _ _ (by omega)]
        by_cases g : k = n
        · rw [if_pos g, g, st2_eq]
        · rw [if_neg g, st2_nj _ _ g, st2_ne _ _ _ (by omega), st2_ne _ _ _ (by omega), st2_ne _ _ _ (by omega)]
      have n14 : ∀ k, ν 14 k = if k = n then 109 else σ 14 k := fun k => by
        rw [hν]
        unfold offT logT
        rw [s3, hcl, hmod, st2_ne _ _ _ (by omega)]
        by_cases g : k = n
        · rw [if_pos g, g, st2_eq]
        · rw [if_neg g, st2_nj _ _ g, st2_ne _ _ _ (by omega), st2_ne _ _ _ (by omega), st2_ne _ _ _ (by omega), st2_ne _ _ _ (by omega)]
      have rx : ∀ a j, ¬ (a = 5 ∧ j = c) → ρ' a j = ρ a j := fun a j g => by rw [hρ', st2_off _ _ g]
      have r5 : ρ' 5 c = 1 := by rw [hρ', st2_eq]
      rw [he]
      refine ⟨n + 1, ν, hk, ?_⟩
      obtain ⟨⟨hqS, hqC, hqA⟩, ⟨h10, h11, h3⟩, hrs, hcs, hp, -, hn, l14, l13⟩ := h
      refine ⟨⟨qS_cj (fun a j g1 g2 => nx a j (by omega) (by omega)) hqS, qC_cg (fun d hd => ⟨nx _ _ (by omega) (by omega), nx _ _ (by omega) (by omega), fun j => nx _ _ (by omega) (by omega)⟩) hqC, qA_cg (fun a j g => nx a j (by omega) (by omega)) hqA⟩, ⟨(nx _ _ (by omega) (by omega)).trans h10, (nx _ _ (by omega) (by omega)).trans h11, fun k hk3 => (nx _ _ (by omega) (by omega)).trans (h3 k hk3)⟩, fun d hd3 k hk18 => ?_, fun d hd3 => ?_, fun k hk4 => ?_, n3, ?_, fun k hk3 => ?_, fun d hd3 g6 => ?_⟩
      · rw [nx _ _ (by omega) (by omega), nx _ _ (by omega) (by omega), rx _ _ (by omega)]
        exact hrs d hd3 k hk18
      · obtain ⟨a, b, f⟩ := hcs d hd3
        rw [nx (16 + 6 * d) 2 (by omega) (by omega), nx (15 + 6 * d) 4 (by omega) (by omega), rx 4 d (by omega)]
        refine ⟨a, ?_, f⟩
        by_cases g : d = c
        · subst g
          exact Or.inr ⟨n6, r5⟩
        · rw [nx _ _ (by omega) (by omega), rx _ _ (by omega)]
          exact b
      · rw [nx _ _ (by omega) (by omega), nx _ _ (by omega) (by omega)]
        exact hp k hk4
      · have := onb_off (ν := ν) hc h6' n6 (fun d hd hdc => nx _ _ (by omega) (by omega))
        omega
      · rw [n14]
        split
        · decide
        · exact l14 k (by omega)
      · by_cases g : d = c
        · subst g
          exact ⟨n, by omega, by rw [n13, if_pos rfl]⟩
        · rw [nx _ _ (by omega) (by omega)] at g6
          obtain ⟨k, hk3, e⟩ := l13 d hd3 g6
          exact ⟨k, by omega, by rw [n13, if_neg (by omega)]; exact e⟩
  · have he : lkT i c ρ = ρ := by
      have h5' : ¬ ρ 5 c = 0 := by
        rw [h5]
        decide
      have e1 : lk1 i c ρ = ρ := by
        unfold lk1
        rw [if_neg h5']
      unfold lkT lk2
      rw [e1, if_neg h5', st2_same h5]
    rw [he]
    exact ⟨n, σ, fun K => by rw [hd, if_pos h6], h⟩
/-- how many are on, by the law's count -/
theorem FL_on {τ n i : Nat} {ρ σ : TS} (h : FLs τ n (lkR i ρ) σ) : onb σ = lkN i ρ := by
  have e0 : lkR i ρ 5 0 = lkT i 0 ρ 5 0 := by
    unfold lkR
    rw [lkT_5 i 2 (by decide) (by decide), lkT_5 i 1 (by decide) (by decide)]
  have e1 : lkR i ρ 5 1 = lkT i 1 (lkT i 0 ρ) 5 1 := by
    unfold lkR
    rw [lkT_5 i 2 (by decide) (by decide)]
  have g : ∀ c, c < 3 → (if σ (15 + 6 * c) 6 = 0 then 0 else 1) = (if lkR i ρ 5 c = 0 then 1 else 0) := fun c hc => by
    rcases (h.2.2.2.1 c hc).2.1 with ⟨a, b⟩ | ⟨a, b⟩
    · rw [a, b]
      rfl
    · rw [a, b]
      rfl
  unfold onb lkN
  rw [← e0, ← e1, g 0 (by decide), g 1 (by decide), g 2 (by decide)]
theorem FL_frame {τ n : Nat} {ρ σ : TS} (hτ : τ + 1 < 2 ^ 31) (h : FLs τ n ρ σ) : ∃ n' u, sX8_frame σ = some (nI (lkN ((τ + 1) % 18) ρ), u) ∧ FLs (τ + 1) n' (lkR ((τ + 1) % 18) ρ) u := by
  have hi : (τ + 1) % 18 < 18 := Nat.mod_lt _ (by decide)
  have key : ∀ ν : TS, FLs (τ + 1) n ρ ν → ∃ n' u, sX8_frame_46 4 (nI 0) ν = some (nI (lkN ((τ + 1) % 18) ρ), u) ∧ FLs (τ + 1) n' (lkR ((τ + 1) % 18) ρ) u := fun ν hν => by
    obtain ⟨h10, h11, h3⟩ := id hν.2.1
    obtain ⟨n1, u1, e1, f1⟩ := FL_scr (show 0 < 3 by decide) hi hν
    obtain ⟨n2, u2, e2, f2⟩ := FL_scr (show 1 < 3 by decide) hi f1
    obtain ⟨n3, u3, e3, f3⟩ := FL_scr (show 2 < 3 by decide) hi f2
    have f3 : FLs (τ + 1) n3 (lkR ((τ + 1) % 18) ρ) u3 := f3
    have hs : sX8_scrub ν = some (0, u3) := by
      have h0 : sX8_scrub ν = ((sJ9_floorMod_7cf53 (ν 0 10) (18 : Int32) ν).bind (fun z => sX8_scrub_9 z.1 z.2)) := rfl
      rw [h0, h10, fm_18 ν hτ, Option.bind_some]
      show sX8_scrub_12 4 (nI ((τ + 1) % 18)) (nI 0) ν = _
      rw [e1 3, e2 2, e3 1]
      exact if_pos (show (3 : Int32) ≤ nI (2 + 1) by decide)
    obtain ⟨-, gC, gA⟩ := f3.1
    refine ⟨n3, plc u3, ?_, FL_cg f3 (plc_qA gA) (by rw [plc_fr _ (by decide)]; exact f3.2.1.1) (fun a j ha _ => by rw [plc_fr _ ha])⟩
    rw [c_46 h11 (by decide) 3 (show 0 < 3 by decide), if_pos (show ν (3 + 0) 0 = -1 from h3 0 (by decide)), c_46 h11 (by decide) 2 (show 1 < 3 by decide), if_pos (show ν (3 + 0) 1 = -1 from h3 1 (by decide)), c_46 h11 (by decide) 1 (show 2 < 3 by decide), if_pos (show ν (3 + 0) 2 = -1 from h3 2 (by decide)), c_46e, hs, Option.bind_some]
    dsimp only
    rw [c_tail gC gA, FL_on f3]
  have hqS := h.1.1
  have hqA := h.1.2.2
  have h10 := h.2.1.1
  by_cases h0 : onb σ = 0
  · rw [c_head0 hqS h0]
    exact key _ (FL_cg h (qA_cg (fun a j g => by rw [st2_ne _ _ _ (by omega), st2_ne _ _ _ (by omega)]) hqA) (by rw [st2_nj _ _ (by decide), st2_eq, h10, nI_1]) (fun a j _ g => by rw [st2_off _ _ (by omega), st2_off _ _ (by omega)]))
  · rw [c_head hqS h0]
    exact key _ (FL_cg h (qA_cg (fun a j g => by rw [st2_ne _ _ _ (by omega)]) hqA) (by rw [st2_eq, h10, nI_1]) (fun a j _ g => by rw [st2_off _ _ (by omega)]))
/-- a bit turned -/
def fbX (c row bit : Nat) (ρ : TS) : TS := st2 ρ (1 + c) row (ρ (1 + c) row ^^^ ((1 : Int32) <<< (nI bit &&& 31)))
theorem six_q {r : Nat} (hr : r < 18) : nI r / (6 : Int32) = nI (r / 6) := pk_div (d := 6) (by omega) (by decide) (by decide)
theorem six_r {r : Nat} (hr : r < 18) : nI r - nI r / (6 : Int32) * (6 : Int32) = nI (r % 6) := pk_rem (d := 6) (by omega) (by decide) (by decide)
theorem FL_flip {τ n c row bit : Nat} {ρ σ : TS} (hc : c < 3) (hr : row < 18) (hb : bit < 16) (h : FLs τ n ρ σ) : ∃ u, sX8_flip (nI c) (nI row / (6 : Int32)) (nI row - nI row / (6 : Int32) * (6 : Int32)) (nI bit) σ = some (.inl (nI (cntb (fbX c row bit ρ (1 + c) row))), u) ∧ FLs τ n (fbX c row bit ρ) u := by
  obtain ⟨hx, hz⟩ := h.2.2.1 c hc row hr
  have hrow : 6 * (row / 6) + row % 6 = row := Nat.div_add_mod row 6
  have hk := k_flip (w := c) (p := row / 6) (i := row % 6) (b := bit) hc (by omega) (Nat.mod_lt _ (by decide)) hb (σ := σ) (by rw [hrow, hx.1]; exact hx.2)
  rw [hrow, hx.1] at hk
  have eX : fbX c row bit ρ (1 + c) row = ρ (1 + c) row ^^^ ((1 : Int32) <<< (nI bit &&& 31)) := st2_eq _ _ _ _
  have hX := turn_16 hx.2 hb
  obtain ⟨X, eX2⟩ : ∃ X, X = ρ (1 + c) row ^^^ ((1 : Int32) <<< (nI bit &&& 31)) := ⟨_, rfl⟩
  rw [← eX2] at hk eX hX
  obtain ⟨ν, hν⟩ : ∃ ν, ν = st2 (st2 σ 0 14 1) (18 + 6 * c) row X := ⟨_, rfl⟩
  obtain ⟨ρ', hρ'⟩ : ∃ ρ', ρ' = fbX c row bit ρ := ⟨_, rfl⟩
  have rx : ∀ a j, ¬ (a = 1 + c ∧ j = row) → ρ' a j = ρ a j := fun a j g => by
    rw [hρ']
    unfold fbX
    rw [st2_off _ _ g]
  have nx : ∀ a j, ¬ (a = 18 + 6 * c ∧ j = row) → ¬ (a = 0 ∧ j = 14) → ν a j = σ a j := fun a j g1 g2 => by rw [hν, st2_off _ _ g1, st2_off _ _ g2]
  have n1 : ν (18 + 6 * c) row = X := by rw [hν, st2_eq]
  rw [six_r hr, six_q hr, eX, ← hρ']
  rw [← hν] at hk
  rw [← hρ'] at eX
  refine ⟨ν, hk, ?_⟩
  obtain ⟨⟨hqS, hqC, hqA⟩, ⟨h10, h11, h3⟩, hrs, hcs, hp, l3, hn, l14, l13⟩ := h
  refine ⟨⟨qS_cj (fun a j g1 g2 => nx a j (by omega) (by omega)) hqS, qC_cg (fun d hd => ⟨nx _ _ (by omega) (by omega), nx _ _ (by omega) (by omega), fun j => nx _ _ (by omega) (by omega)⟩) hqC, qA_cg (fun a j g => nx a j (by omega) (by omega)) hqA⟩, ⟨(nx _ _ (by omega) (by omega)).trans h10, (nx _ _ (by omega) (by omega)).trans h11, fun k hk3 => (nx _ _ (by omega) (by omega)).trans (h3 k hk3)⟩, fun d hd3 k hk18 => ?_, fun d hd3 => ?_, fun k hk4 => ?_, ?_, ?_, fun k hk3 => ?_, fun d hd3 g6 => ?_⟩
  · refine ⟨?_, (nx _ _ (by omega) (by omega)).trans (hrs d hd3 k hk18).2⟩
    by_cases g : d = c ∧ k = row
    · obtain ⟨rfl, rfl⟩ := g
      rw [n1, eX]
      exact ⟨rfl, hX⟩
    · rw [nx _ _ (by omega) (by omega), rx _ _ (by omega)]
      exact (hrs d hd3 k hk18).1
  · rw [nx _ _ (by omega) (by omega), nx _ _ (by omega) (by omega), nx _ _ (by omega) (by omega), rx _ _ (by omega), rx _ _ (by omega)]
    exact hcs d hd3
  · rw [nx _ _ (by omega) (by omega), nx _ _ (by omega) (by omega)]
    exact hp k hk4
  · rw [nx _ _ (by omega) (by omega)]
    exact l3
  · rw [onb_cg (fun d hd => nx _ _ (by omega) (by omega))]
    exact hn
  · rw [nx _ _ (by omega) (by omega)]
    exact l14 k hk3
  · rw [nx _ _ (by omega) (by omega)] at g6
    obtain ⟨k, hk3, e⟩ := l13 d hd3 g6
    exact ⟨k, hk3, by rw [nx _ _ (by omega) (by omega)]; exact e⟩
/-- the three answers that the law reads of each computer -/
theorem FL_m {τ n k : Nat} {ρ σ : TS} (hk : k < 3) (h : FLs τ n ρ σ) : sX8_mended (nI k) σ = some (.inl (ρ 4 k), σ) := by
  rw [k_mended hk, (h.2.2.2.1 k hk).1]
theorem FL_n {τ n k : Nat} {ρ σ : TS} (hk : k < 3) (h : FLs τ n ρ σ) : ∃ v, sX8_isOn (nI k) σ = some (.inl v, σ) ∧ (if v = 0 then (0 : Int32) else 1) = (if ρ 5 k = 0 then 1 else 0) := by
  rcases (h.2.2.2.1 k hk).2.1 with ⟨a, b⟩ | ⟨a, b⟩
  · exact ⟨_, k_isOn hk (by rw [a]; rfl), by rw [a, b]; rfl⟩
  · exact ⟨_, k_isOn hk (by rw [a]; rfl), by rw [a, b]; rfl⟩
theorem FL_w {τ n k row : Nat} {ρ σ : TS} (hk : k < 3) (hr : row < 18) (h : FLs τ n ρ σ) : sX8_word (nI k) (nI row / (6 : Int32)) (nI row - nI row / (6 : Int32) * (6 : Int32)) σ = some (.inl (ρ (1 + k) row).toInt16.toInt32, σ) := by
  obtain ⟨hx, hz⟩ := h.2.2.1 k hk row hr
  have hrow : 6 * (row / 6) + row % 6 = row := Nat.div_add_mod row 6
  rw [six_r hr, six_q hr, k_word (p := row / 6) (i := row % 6) hk (by omega) (Nat.mod_lt _ (by decide)), hrow, hz, hx.1, Int32.zero_xor]
theorem FL_true {τ n : Nat} {ρ σ : TS} (h : FLs τ n ρ σ) : sX8_isTrue σ = some (1, σ) := by
  obtain ⟨-, -, -, hcs, hp, l3, hn, l14, l13⟩ := h
  exact k_true (fun _ _ => hp) (fun c hc _ => by rw [(hcs c hc).2.2]; decide) l3 (by omega) l13 (fun _ => l14)
