/-! ===== sticks: one computer with a bit that sticks ===== -/
def PG (n : Nat) (σ : TS) : Prop := σ (39 + 4 * 2) 3 = nI 3 ∧ (σ (40 + 4 * 2) 0 = 108 ∧ σ (41 + 4 * 2) 0 = nI 3 ∧ σ (42 + 4 * 2) 0 = nI n) ∧ (σ (40 + 4 * 2) 1 = 111 ∧ σ (41 + 4 * 2) 1 = nI 3 ∧ σ (42 + 4 * 2) 1 = nI 1) ∧ (σ (40 + 4 * 2) 2 = 109 ∧ σ (41 + 4 * 2) 2 = nI 3 ∧ σ (42 + 4 * 2) 2 = nI 5)
def FZ (σ : TS) : Prop := ∀ c, c < 4 → ∀ i, i < 18 → σ (18 + 6 * c) i = 0
theorem PG_cg {n : Nat} {σ ν : TS} (h : ∀ k, 47 ≤ k → k ≤ 50 → ∀ j, j ≠ 4 → ν k j = σ k j) (hp : PG n σ) : PG n ν := by
  obtain ⟨h0, ⟨a1, a2, a3⟩, ⟨b1, b2, b3⟩, c1, c2, c3⟩ := hp
  exact ⟨(h _ (by decide) (by decide) 3 (by decide)).trans h0, ⟨(h _ (by decide) (by decide) 0 (by decide)).trans a1, (h _ (by decide) (by decide) 0 (by decide)).trans a2, (h _ (by decide) (by decide) 0 (by decide)).trans a3⟩, ⟨(h _ (by decide) (by decide) 1 (by decide)).trans b1, (h _ (by decide) (by decide) 1 (by decide)).trans b2, (h _ (by decide) (by decide) 1 (by decide)).trans b3⟩, (h _ (by decide) (by decide) 2 (by decide)).trans c1, (h _ (by decide) (by decide) 2 (by decide)).trans c2, (h _ (by decide) (by decide) 2 (by decide)).trans c3⟩
theorem FZ_cg {σ ν : TS} (h : ∀ c, c < 4 → ∀ j, j < 18 → ν (18 + 6 * c) j = σ (18 + 6 * c) j) (hz : FZ σ) : FZ ν := fun c hc i hi => (h c hc i hi).trans (hz c hc i hi)
/-- to the vote of the second beat -/
theorem run_s1 {σ : TS} {n w : Nat} (hw : w < 3) (hpg : PG n σ) (hz : FZ σ) (hon : ∀ c, c < 3 → σ (15 + 6 * c) 6 ≠ 0) (hst : ∀ c, c < 3 → σ (15 + 6 * c) 4 < 3) (hx : ∀ c, c < 4 → c ≠ w → stkT σ c 3 (nI n) = nI n) :
    ∃ b, (∀ d, sX8_shutOffStruckOnes b = some (0, d) → sX8_runSlot (nI 2) σ = sX8_runSlot_38 29 2 (nI 2) (nI 2) d) ∧ b 9 1 = nI n ∧ b 10 1 = nI n ∧ (∀ c, c < 4 → b (15 + 6 * c) 11 = nI 2 ∧ b (20 + 6 * c) 3 = stkT σ c 3 (nI n)) ∧ (∀ c, c < 3 → b (15 + 6 * c) 4 = if stkT σ c 3 (nI n) = nI n then σ (15 + 6 * c) 4 else σ (15 + 6 * c) 4 + 1) ∧ ∀ k j, ¬ (k = 9 ∧ j = 1) → ¬ (k = 10 ∧ j = 1) → (∀ c, c < 4 → ¬ (k = 15 + 6 * c ∧ (j = 4 ∨ j = 11 ∨ j = 12 ∨ j = 13)) ∧ k ≠ 20 + 6 * c) → b k j = σ k j := by
  obtain ⟨u, e0, u11, uf⟩ := c_begs σ (show 2 < 3 by decide)
  have ux : ∀ k j, (∀ c, c < 4 → ¬ (k = 15 + 6 * c ∧ j = 11) ∧ k ≠ 20 + 6 * c) → u k j = σ k j := uf
  have upg : PG n u := PG_cg (fun k h1 h2 j _ => ux k j (fun c hc => by omega)) hpg
  have uz : FZ u := FZ_cg (fun c hc j hj => ux _ j (fun d hd => by omega)) hz
  have uon : ∀ c, c < 3 → u (15 + 6 * c) 6 ≠ 0 := fun c hc => by rw [ux _ _ (fun d hd => by omega)]; exact hon c hc
  have ust : ∀ c, c < 3 → u (15 + 6 * c) 6 ≠ 0 → u (15 + 6 * c) 4 < 3 := fun c hc _ => by rw [ux _ _ (fun d hd => by omega)]; exact hst c hc
  have us : ∀ c, c < 4 → stkT u c 3 (nI n) = stkT σ c 3 (nI n) := fun c hc => stkT_cg (ux _ _ (fun d hd => by omega)) (ux _ _ (fun d hd => by omega)) (ux _ _ (fun d hd => by omega)) 3 (nI n)
  obtain ⟨p0, ⟨p1, p2, p3⟩, -, -⟩ := upg
  obtain ⟨d, e1, d11, df⟩ := bt_l (K := 30) (i := 0) (t := 0) (s := 3) (p := 2) (r := 3) (nv := nI n) (by decide) (by decide) (fun c hc _ => u11 c hc) p0 (by decide) (by decide) p1 p2 p3 (by decide) uz ust
  have dx : ∀ k j, (∀ c, c < 4 → ¬ (k = 15 + 6 * c ∧ (j = 11 ∨ j = 12)) ∧ k ≠ 20 + 6 * c) → d k j = σ k j := fun k j h => by
    rw [df k j (fun c hc => by have := h c hc; omega), ux k j (fun c hc => by have := h c hc; omega)]
  have dpg : PG n d := PG_cg (fun k h1 h2 j _ => dx k j (fun c hc => by omega)) hpg
  have dz : FZ d := FZ_cg (fun c hc j hj => dx _ j (fun d hd => by omega)) hz
  have don : ∀ c, c < 3 → d (15 + 6 * c) 6 ≠ 0 := fun c hc => by rw [dx _ _ (fun d hd => by omega)]; exact hon c hc
  have d20 : ∀ c, c < 4 → d (20 + 6 * c) 3 = stkT σ c 3 (nI n) := fun c hc => by rw [(d11 c hc (fun h => uon c h)).2, us c hc]
  obtain ⟨q0, -, ⟨q1, q2, q3⟩, -⟩ := dpg
  obtain ⟨b, e2, b9, b10, b11, b4, bf⟩ := bt_o (K := 29) (i := 1) (t := 1) (s := 3) (p := 2) (r := 3) (g := 1) (w := w) (n := nI n) hw (by decide) (by decide) (by decide) (fun c hc => (d11 c hc (fun h => uon c h)).1) q0 (by decide) (by decide) q1 q2 q3 (by decide) dz don (fun c hc hcw => by rw [d20 c hc]; exact hx c hc hcw)
  refine ⟨b, fun z hzz => ?_, b9, b10, fun c hc => ⟨b11 c hc, ?_⟩, fun c hc => ?_, fun k j h1 h2 h => ?_⟩
  · rw [e0, e1, e2 z hzz]
  · rw [bf _ _ (by omega) (by omega) (fun d hd => by omega)]
    exact d20 c hc
  · rw [b4 c hc, d20 c (by omega), dx _ _ (fun d hd => by omega)]
  · rw [bf k j h1 h2 (fun c hc => (h c hc).1), dx k j (fun c hc => by have := h c hc; omega)]
/-- the third beat, and the end of the slot -/
theorem run_s2 {d : TS} {n : Nat} (hpg : PG n d) (hz : FZ d) (h11 : ∀ c, c < 4 → (c < 3 → d (15 + 6 * c) 6 ≠ 0) → d (15 + 6 * c) 11 = nI 2) (hst : ∀ c, c < 3 → d (15 + 6 * c) 6 ≠ 0 → d (15 + 6 * c) 4 < 3) :
    ∃ u, sX8_runSlot_38 29 2 (nI 2) (nI 2) d = some (0, u) ∧ (∀ c, c < 4 → (c < 3 → d (15 + 6 * c) 6 ≠ 0) → u (17 + 6 * c) 17 = d (20 + 6 * c) 3) ∧ ∀ k j, (∀ c, c < 4 → ¬ (k = 15 + 6 * c ∧ (j = 11 ∨ j = 12)) ∧ ¬ (k = 17 + 6 * c ∧ j = 17)) → u k j = d k j := by
  obtain ⟨p0, -, -, p1, p2, p3⟩ := id hpg
  obtain ⟨u, e, hu, uf⟩ := bt_m (K := 28) (i := 2) (t := 2) (s := 3) (p := 2) (r := 3) (m := 5) (by decide) (by decide) h11 p0 (by decide) (by decide) p1 p2 p3 (by decide) (by decide) hz hst
  have u6 : ∀ c, u (15 + 6 * c) 6 = d (15 + 6 * c) 6 := fun c => uf _ _ (fun e he => by omega)
  have un : ∀ c, c < 3 → u (15 + 6 * c) 6 ≠ 0 → u (15 + 6 * c) 11 = nI 3 := fun c hc h => (hu c (by omega) (fun _ => by rw [← u6 c]; exact h)).1
  have u3 : u (39 + 4 * 2) 3 = nI 3 := by rw [uf _ _ (fun e he => by omega)]; exact p0
  have hany : sX8_isAnyLeft 2 u = some (0, u) := by
    rw [c_any (t := 3) (s := 3) un (hu 3 (by decide) (fun h => absurd h (by decide))).1 u3 (by decide) (by decide), if_neg (by decide)]
  have hone : sX8_isOneOfThreeLeft 2 u = some (0, u) := by
    rw [c_one (t := 3) (s := 3) un u3 (by decide) (by decide), if_neg (fun q => absurd q.1 (by decide))]
  exact ⟨u, by rw [e, c_stop (K := 27) (show 2 + 1 < 30 by decide) hany, c_72n hone], fun c hc h => (hu c hc h).2, uf⟩
theorem fr_s {σ u : TS} {τ : Nat} (hq : qS σ) (h10 : σ 0 10 = nI τ) (h11 : σ 0 11 = nI 0) (s0 : σ 3 0 = -1) (s1 : σ 3 1 = nI 2) (s2 : u 3 2 = -1) (hon : onb σ ≠ 0) (hrun : sX8_runSlot (nI 2) (st2 σ 0 10 (nI (τ + 1))) = some (0, u)) (u10 : u 0 10 = nI (τ + 1)) (u11 : u 0 11 = nI 0) (hτ : τ + 1 < 2 ^ 31) (hc : qC u) (ha : qA u) (hz : FZ u) : sX8_frame σ = some (nI (onb u), plc u) := by
  have g : ∀ i, (st2 σ 0 10 (nI (τ + 1))) (3 + 0) i = σ 3 i := fun i => by rw [st2_ne _ _ _ (by omega)]
  have g11 : (st2 σ 0 10 (nI (τ + 1))) 0 11 = nI 0 := by rw [st2_nj _ _ (by decide)]; exact h11
  have t0 : (st2 σ 0 10 (nI (τ + 1))) (3 + 0) 0 = -1 := (g 0).trans s0
  have t1 : ¬ (st2 σ 0 10 (nI (τ + 1))) (3 + 0) 1 = -1 := by rw [g 1, s1]; decide
  have t2 : u (3 + 0) 2 = -1 := s2
  rw [c_head hq hon, h10, nI_1, c_46 g11 (by decide) 3 (show 0 < 3 by decide), if_pos t0, c_46 g11 (by decide) 2 (show 1 < 3 by decide), if_neg t1, g 1, s1, hrun, Option.bind_some]
  dsimp only
  rw [c_46 u11 (by decide) 1 (show 2 < 3 by decide), if_pos t2, c_46e, c_scrub0 u10 hτ (fun c hc i hi => hz c (by omega) i hi), Option.bind_some, c_tail hc ha]
/-- k frames are done (2 at most), w's bit sticks -/
def SS (n b w : Nat) (v : Int32) (k : Nat) (σ : TS) : Prop := (qS σ ∧ qC σ ∧ qA σ ∧ FZ σ) ∧ PG n σ ∧ (σ 0 10 = nI k ∧ σ 0 11 = nI 0 ∧ σ 3 0 = -1 ∧ σ 3 1 = nI 2 ∧ σ 3 2 = -1) ∧ (∀ c, c < 3 → σ (15 + 6 * c) 6 ≠ 0) ∧ (∀ c, c < 3 → σ (15 + 6 * c) 4 = if c = w then nI k else 0) ∧ (σ (15 + 6 * w) 5 = nI 3 ∧ σ (15 + 6 * w) 9 = nI b ∧ σ (15 + 6 * w) 10 = v) ∧ (∀ c, c < 4 → c ≠ w → σ (15 + 6 * c) 5 = -1) ∧ σ 11 3 = nI 0 ∧ (∀ i, i < 4 → i ≠ 1 → σ 9 i = σ 10 i) ∧ σ 0 14 = 1
theorem qC_cg {σ ν : TS} (h : ∀ c, c < 3 → ν (15 + 6 * c) 2 = σ (15 + 6 * c) 2 ∧ ν (15 + 6 * c) 3 = σ (15 + 6 * c) 3 ∧ ∀ j, ν (19 + 6 * c) j = σ (19 + 6 * c) j) (hq : qC σ) : qC ν :=
  ⟨fun c hc => ⟨(h c hc).1.trans (hq.1 c hc).1, (h c hc).2.1.trans (hq.1 c hc).2⟩, fun c j hc hj => ((h c hc).2.2 j).trans (hq.2 c j hc hj)⟩
theorem qA_cg {σ ν : TS} (h : ∀ k j, 70 ≤ k → ν k j = σ k j) (hq : qA σ) : qA ν := fun k hk => ⟨(h _ _ (by omega)).trans (hq k hk).1, fun j hj => (h _ _ (by omega)).trans ((hq k hk).2 j hj)⟩
theorem qS_cj {σ ν : TS} (h : ∀ k j, 66 ≤ k → k < 70 → ν k j = σ k j) (hq : qS σ) : qS ν := fun k hk => by
  obtain ⟨a, b, c, d⟩ := hq k hk
  exact ⟨(h _ _ (by omega) (by omega)).trans a, (h _ _ (by omega) (by omega)).trans b, (h _ _ (by omega) (by omega)).trans c, (h _ _ (by omega) (by omega)).trans d⟩
theorem lt3 {k : Nat} (h : k < 3) : nI k < (3 : Int32) := nI_lt (b := 3) h (by decide)
/-- a frame, up to the vote of its second beat, from any state of the kind -/
theorem SS_x {n b w k : Nat} {v : Int32} {σ : TS} (hn : n < 8000) (hb : b < 14) (hw : w < 3) (hv : v = if (nI n >>> (nI b &&& 31)) &&& 1 = 0 then 1 else 0) (h : SS n b w v k σ) : stkT σ w 3 (nI n) = wr n b ∧ ∀ c, c < 4 → c ≠ w → stkT σ c 3 (nI n) = nI n := by
  obtain ⟨-, -, -, -, -, ⟨h5, h9, h10⟩, h5n, -⟩ := h
  exact ⟨stk_wr hn hb h5 h9 h10 hv, fun c hc hcw => stk_no hn (by decide) (h5n c hc hcw)⟩
/-- the first and the second frame -/
theorem SS_step {n b w k : Nat} {v : Int32} {σ : TS} (hn : n < 8000) (hb : b < 14) (hw : w < 3) (hv : v = if (nI n >>> (nI b &&& 31)) &&& 1 = 0 then 1 else 0) (hk : k < 2) (h : SS n b w v k σ) : ∃ u, sX8_frame σ = some (nI 3, u) ∧ SS n b w v (k + 1) u ∧ u 9 1 = nI n ∧ u (17 + 6 * w) 17 = wr n b ∧ u (18 + 6 * w) 17 = 0 := by
  obtain ⟨hsw, hsc⟩ := SS_x hn hb hw hv h
  obtain ⟨⟨hqS, hqC, hqA, hz⟩, hpg, ⟨h10, h11, s0, s1, s2⟩, hon, h4, ⟨h5, h9, h10w⟩, h5n, hlog, hout, h14⟩ := h
  obtain ⟨ρ, hρ⟩ : ∃ ρ, ρ = st2 σ 0 10 (nI (k + 1)) := ⟨_, rfl⟩
  have r1 : ∀ a j, ¬ (a = 0 ∧ j = 10) → ρ a j = σ a j := fun a j h => by rw [hρ]; exact st2_off _ _ h
  have rs : ∀ c, stkT ρ c 3 (nI n) = stkT σ c 3 (nI n) := fun c => stkT_cg (r1 _ _ (by omega)) (r1 _ _ (by omega)) (r1 _ _ (by omega)) 3 (nI n)
  have r4 : ∀ c, c < 3 → ρ (15 + 6 * c) 4 = if c = w then nI k else 0 := fun c hc => by rw [r1 _ _ (by omega)]; exact h4 c hc
  obtain ⟨β, e1, b9, b10, b11, b4, bf⟩ := run_s1 (σ := ρ) (n := n) hw (PG_cg (fun a h1 h2 j hj => r1 a j (by omega)) hpg) (FZ_cg (fun c hc j hj => r1 _ _ (by omega)) hz) (fun c hc => by rw [r1 _ _ (by omega)]; exact hon c hc) (fun c hc => by rw [r4 c hc]; (split <;> first | exact lt3 (by omega) | decide)) (fun c hc hcw => by rw [rs]; exact hsc c hc hcw)
  have bx : ∀ a j, ¬ (a = 0 ∧ j = 10) → ¬ (a = 9 ∧ j = 1) → ¬ (a = 10 ∧ j = 1) → (∀ c, c < 4 → ¬ (a = 15 + 6 * c ∧ (j = 4 ∨ j = 11 ∨ j = 12 ∨ j = 13)) ∧ a ≠ 20 + 6 * c) → β a j = σ a j := fun a j g0 g1 g2 g3 => by rw [bf a j g1 g2 g3, r1 a j g0]
  have bs : ∀ c, c < 3 → β (15 + 6 * c) 4 = if c = w then nI (k + 1) else 0 := fun c hc => by
    rw [b4 c hc, rs c, r4 c hc]
    by_cases hcw : c = w
    · subst hcw
      rw [hsw, if_neg (wr_ne hn hb), if_pos rfl, if_pos rfl, nI_1]
    · rw [hsc c (by omega) hcw, if_pos rfl, if_neg hcw, if_neg hcw]
  have blt : ∀ c, c < 3 → β (15 + 6 * c) 6 ≠ 0 → β (15 + 6 * c) 4 < 3 := fun c hc _ => by
    rw [bs c hc]
    split
    · exact lt3 (by omega)
    · decide
  have bpg : PG n β := PG_cg (fun a h1 h2 j hj => bx a j (by omega) (by omega) (by omega) (fun c hc => by omega)) hpg
  have bz : FZ β := FZ_cg (fun c hc j hj => bx _ _ (by omega) (by omega) (by omega) (fun d hd => by omega)) hz
  obtain ⟨μ, e2, m17, mf⟩ := run_s2 (d := β) (n := n) bpg bz (fun c hc _ => (b11 c hc).1) blt
  have mx : ∀ a j, ¬ (a = 0 ∧ j = 10) → ¬ (a = 9 ∧ j = 1) → ¬ (a = 10 ∧ j = 1) → (∀ c, c < 4 → ¬ (a = 15 + 6 * c ∧ (j = 4 ∨ j = 11 ∨ j = 12 ∨ j = 13)) ∧ a ≠ 20 + 6 * c ∧ ¬ (a = 17 + 6 * c ∧ j = 17)) → μ a j = σ a j := fun a j g0 g1 g2 g3 => by
    rw [mf a j (fun c hc => by have := g3 c hc; omega), bx a j g0 g1 g2 (fun c hc => ⟨(g3 c hc).1, (g3 c hc).2.1⟩)]
  have hrun : sX8_runSlot (nI 2) ρ = some (0, μ) := by rw [e1 β (c_stA blt), e2]
  have m10 : μ 0 10 = nI (k + 1) := by
    rw [mf _ _ (fun c hc => by omega), bf _ _ (by omega) (by omega) (fun c hc => by omega), hρ, st2_eq]
  have m4 : ∀ c, c < 3 → μ (15 + 6 * c) 4 = if c = w then nI (k + 1) else 0 := fun c hc => by rw [mf _ _ (fun d hd => by omega)]; exact bs c hc
  have m6 : ∀ c, c < 3 → μ (15 + 6 * c) 6 ≠ 0 := fun c hc => by rw [mx _ _ (by omega) (by omega) (by omega) (fun d hd => by omega)]; exact hon c hc
  have mqS : qS μ := qS_cj (fun a j h1 h2 => mx a j (by omega) (by omega) (by omega) (fun c hc => by omega)) hqS
  have mqC : qC μ := qC_cg (fun c hc => ⟨mx _ _ (by omega) (by omega) (by omega) (fun d hd => by omega), mx _ _ (by omega) (by omega) (by omega) (fun d hd => by omega), fun j => mx _ _ (by omega) (by omega) (by omega) (fun d hd => by omega)⟩) hqC
  have mqA : qA μ := qA_cg (fun a j h1 => mx a j (by omega) (by omega) (by omega) (fun c hc => by omega)) hqA
  have mz : FZ μ := FZ_cg (fun c hc j hj => mx _ _ (by omega) (by omega) (by omega) (fun d hd => by omega)) hz
  have m3 : ∀ i, μ 3 i = σ 3 i := fun i => mx _ _ (by omega) (by omega) (by omega) (fun d hd => by omega)
  have hf := fr_s (σ := σ) (u := μ) (τ := k) hqS h10 h11 s0 s1 ((m3 2).trans s2) (by rw [onb_3 hon]; decide) (by rw [← hρ]; exact hrun) m10 ((mx 0 11 (by omega) (by omega) (by omega) (fun c hc => by omega)).trans h11) (by omega) mqC mqA mz
  rw [onb_3 m6] at hf
  have px : ∀ a j, a < 70 → plc μ a j = μ a j := fun a j h => by rw [plc_fr _ h]
  have p3 : ∀ i, plc μ 3 i = σ 3 i := fun i => (px 3 i (by decide)).trans (m3 i)
  refine ⟨plc μ, hf, ⟨⟨qS_cj (fun a j h1 h2 => px a j h2) mqS, qC_cg (fun c hc => ⟨px _ _ (by omega), px _ _ (by omega), fun j => px _ _ (by omega)⟩) mqC, plc_qA mqA, FZ_cg (fun c hc j hj => px _ _ (by omega)) mz⟩, PG_cg (fun a h1 h2 j hj => (px a j (by omega)).trans (mx a j (by omega) (by omega) (by omega) (fun c hc => by omega))) hpg, ⟨(px 0 10 (by decide)).trans m10, (px 0 11 (by decide)).trans ((mx 0 11 (by omega) (by omega) (by omega) (fun c hc => by omega)).trans h11), (p3 0).trans s0, (p3 1).trans s1, (p3 2).trans s2⟩, fun c hc => by rw [px _ _ (by omega)]; exact m6 c hc, fun c hc => by rw [px _ _ (by omega)]; exact m4 c hc, ⟨?_, ?_, ?_⟩, fun c hc hcw => ?_, ?_, fun i hi hi1 => ?_, ?_⟩, ?_, ?_, ?_⟩
  · rw [px _ _ (by omega), mx _ _ (by omega) (by omega) (by omega) (fun d hd => by omega)]; exact h5
  · rw [px _ _ (by omega), mx _ _ (by omega) (by omega) (by omega) (fun d hd => by omega)]; exact h9
  · rw [px _ _ (by omega), mx _ _ (by omega) (by omega) (by omega) (fun d hd => by omega)]; exact h10w
  · rw [px _ _ (by omega), mx _ _ (by omega) (by omega) (by omega) (fun d hd => by omega)]; exact h5n c hc hcw
  · rw [px _ _ (by omega), mx _ _ (by omega) (by omega) (by omega) (fun d hd => by omega)]; exact hlog
  · rw [px _ _ (by omega), px _ _ (by omega), mx _ _ (by omega) (by omega) (by omega) (fun d hd => by omega), mx _ _ (by omega) (by omega) (by omega) (fun d hd => by omega)]; exact hout i hi hi1
  · rw [px _ _ (by omega), mx _ _ (by omega) (by omega) (by omega) (fun d hd => by omega)]; exact h14
  · rw [px _ _ (by omega), mf _ _ (fun c hc => by omega)]; exact b9
  · rw [px _ _ (by omega), m17 w (by omega) (fun _ => by rw [bx _ _ (by omega) (by omega) (by omega) (fun d hd => by omega)]; exact hon w hw), (b11 w (by omega)).2, rs, hsw]
  · rw [px _ _ (by omega)]; exact mz w (by omega) 17 (by decide)
/-- behind the third frame: w is off, and a line tells it -/
def SO (n b w : Nat) (σ : TS) : Prop := (qS σ ∧ qC σ ∧ qA σ ∧ FZ σ) ∧ PG n σ ∧ (σ 0 10 = nI 3 ∧ σ 0 11 = nI 0 ∧ σ 3 0 = -1 ∧ σ 3 1 = nI 2 ∧ σ 3 2 = -1) ∧ (∀ c, c < 3 → c ≠ w → σ (15 + 6 * c) 6 ≠ 0) ∧ (σ (15 + 6 * w) 6 = 0 ∧ σ (15 + 6 * w) 7 = 0) ∧ (∀ c, c < 3 → σ (15 + 6 * c) 4 = if c = w then nI 3 else 0) ∧ σ (15 + 6 * w) 5 = nI 3 ∧ (∀ c, c < 4 → c ≠ w → σ (15 + 6 * c) 5 = -1) ∧ (σ 11 3 = nI 1 ∧ σ 12 0 = nI 3 ∧ σ 13 0 = nI w ∧ σ 14 0 = 118) ∧ (∀ i, i < 4 → σ 9 i = σ 10 i) ∧ σ 0 14 = 1 ∧ σ 9 1 = nI n ∧ ∀ c, c < 3 → c ≠ w → σ (17 + 6 * c) 17 = nI n
theorem off_x (w : Nat) (x : Int32) (σ : TS) {a j : Nat} (h1 : ¬ (a = 15 + 6 * w ∧ (j = 6 ∨ j = 7))) (h2 : ¬ (a = 11 ∧ j = 3)) (h3 : a ≠ 12) (h4 : a ≠ 13) (h5 : a ≠ 14) : offT w x σ a j = σ a j := by
  unfold offT logT
  rw [st2_off _ _ h2, st2_ne _ _ _ h5, st2_ne _ _ _ h4, st2_ne _ _ _ h3, st2_off _ _ (by omega), st2_off _ _ (by omega)]
theorem off_v {w n : Nat} {x : Int32} {σ : TS} (hw : w < 3) (h : σ 11 3 = nI n) (hn : n < 2 ^ 31) : offT w x σ (15 + 6 * w) 6 = 0 ∧ offT w x σ (15 + 6 * w) 7 = 0 ∧ offT w x σ 11 3 = nI (n + 1) ∧ offT w x σ 12 (n % 30) = σ 0 10 ∧ offT w x σ 13 (n % 30) = nI w ∧ offT w x σ 14 (n % 30) = x := by
  have e11 : (st2 (st2 σ (15 + 6 * w) 6 0) (15 + 6 * w) 7 0) 11 3 = nI n := by rw [st2_ne _ _ _ (by omega), st2_ne _ _ _ (by omega)]; exact h
  have e0 : (st2 (st2 σ (15 + 6 * w) 6 0) (15 + 6 * w) 7 0) 0 10 = σ 0 10 := by rw [st2_ne _ _ _ (by omega), st2_ne _ _ _ (by omega)]
  unfold offT logT
  rw [e11, e0, nI_clamp hn]
  refine ⟨?_, ?_, ?_, ?_, ?_, ?_⟩
  · rw [st2_ne _ _ _ (by omega), st2_ne _ _ _ (by omega), st2_ne _ _ _ (by omega), st2_ne _ _ _ (by omega), st2_off _ _ (by omega), st2_eq]
  · rw [st2_ne _ _ _ (by omega), st2_ne _ _ _ (by omega), st2_ne _ _ _ (by omega), st2_ne _ _ _ (by omega), st2_eq]
  · rw [st2_eq, nI_1]
  · rw [st2_ne _ _ _ (by omega), st2_ne _ _ _ (by omega), st2_ne _ _ _ (by omega), st2_eq]
  · rw [st2_ne _ _ _ (by omega), st2_ne _ _ _ (by omega), st2_eq]
  · rw [st2_ne _ _ _ (by omega), st2_eq]
/-- the third frame -/
theorem SS_off {n b w : Nat} {v : Int32} {σ : TS} (hn : n < 8000) (hb : b < 14) (hw : w < 3) (hv : v = if (nI n >>> (nI b &&& 31)) &&& 1 = 0 then 1 else 0) (h : SS n b w v 2 σ) : ∃ u, sX8_frame σ = some (nI 2, u) ∧ SO n b w u := by
  obtain ⟨hsw, hsc⟩ := SS_x hn hb hw hv h
  obtain ⟨⟨hqS, hqC, hqA, hz⟩, hpg, ⟨h10, h11, s0, s1, s2⟩, hon, h4, ⟨h5, h9, h10w⟩, h5n, hlog, hout, h14⟩ := h
  obtain ⟨ρ, hρ⟩ : ∃ ρ, ρ = st2 σ 0 10 (nI (2 + 1)) := ⟨_, rfl⟩
  have r1 : ∀ a j, ¬ (a = 0 ∧ j = 10) → ρ a j = σ a j := fun a j h => by rw [hρ]; exact st2_off _ _ h
  have rs : ∀ c, stkT ρ c 3 (nI n) = stkT σ c 3 (nI n) := fun c => stkT_cg (r1 _ _ (by omega)) (r1 _ _ (by omega)) (r1 _ _ (by omega)) 3 (nI n)
  have r4 : ∀ c, c < 3 → ρ (15 + 6 * c) 4 = if c = w then nI 2 else 0 := fun c hc => by rw [r1 _ _ (by omega)]; exact h4 c hc
  obtain ⟨β, e1, b9, b10, b11, b4, bf⟩ := run_s1 (σ := ρ) (n := n) hw (PG_cg (fun a h1 h2 j hj => r1 a j (by omega)) hpg) (FZ_cg (fun c hc j hj => r1 _ _ (by omega)) hz) (fun c hc => by rw [r1 _ _ (by omega)]; exact hon c hc) (fun c hc => by rw [r4 c hc]; split <;> decide) (fun c hc hcw => by rw [rs]; exact hsc c hc hcw)
  have bx : ∀ a j, ¬ (a = 0 ∧ j = 10) → ¬ (a = 9 ∧ j = 1) → ¬ (a = 10 ∧ j = 1) → (∀ c, c < 4 → ¬ (a = 15 + 6 * c ∧ (j = 4 ∨ j = 11 ∨ j = 12 ∨ j = 13)) ∧ a ≠ 20 + 6 * c) → β a j = σ a j := fun a j g0 g1 g2 g3 => by rw [bf a j g1 g2 g3, r1 a j g0]
  have bs : ∀ c, c < 3 → β (15 + 6 * c) 4 = if c = w then nI 3 else 0 := fun c hc => by
    rw [b4 c hc, rs c, r4 c hc]
    by_cases hcw : c = w
    · subst hcw
      rw [hsw, if_neg (wr_ne hn hb), if_pos rfl, if_pos rfl, nI_1]
    · rw [hsc c (by omega) hcw, if_pos rfl, if_neg hcw, if_neg hcw]
  have b6 : ∀ c, c < 3 → β (15 + 6 * c) 6 ≠ 0 := fun c hc => by rw [bx _ _ (by omega) (by omega) (by omega) (fun d hd => by omega)]; exact hon c hc
  have blog : β 11 3 = nI 0 := by rw [bx _ _ (by omega) (by omega) (by omega) (fun d hd => by omega)]; exact hlog
  have b0 : β 0 10 = nI 3 := by rw [bf _ _ (by omega) (by omega) (fun c hc => by omega), hρ, st2_eq]
  have hsb : sX8_shutOffStruckOnes β = some (0, offT w 118 β) := c_stB (n := 0) hw (b6 w hw) (by rw [bs w hw, if_pos rfl]; decide) (fun c hc hcw _ => by rw [bs c hc, if_neg hcw]; decide) (by decide) blog
  obtain ⟨o6, o7, o11, o12, o13, o14⟩ := off_v (x := 118) hw blog (by decide)
  have o12 : offT w 118 β 12 0 = nI 3 := o12.trans b0
  obtain ⟨δ, hδ⟩ : ∃ δ, δ = offT w 118 β := ⟨_, rfl⟩
  have dx : ∀ a j, ¬ (a = 15 + 6 * w ∧ (j = 6 ∨ j = 7)) → ¬ (a = 11 ∧ j = 3) → a ≠ 12 → a ≠ 13 → a ≠ 14 → δ a j = β a j := fun a j g1 g2 g3 g4 g5 => by rw [hδ]; exact off_x w 118 β g1 g2 g3 g4 g5
  rw [← hδ] at hsb o6 o7 o11 o12 o13 o14
  have dpg : PG n δ := PG_cg (fun a h1 h2 j hj => (dx a j (by omega) (by omega) (by omega) (by omega) (by omega)).trans (bx a j (by omega) (by omega) (by omega) (fun c hc => by omega))) hpg
  have dz : FZ δ := FZ_cg (fun c hc j hj => (dx _ _ (by omega) (by omega) (by omega) (by omega) (by omega)).trans (bx _ _ (by omega) (by omega) (by omega) (fun d hd => by omega))) hz
  have d6 : ∀ c, c < 3 → c ≠ w → δ (15 + 6 * c) 6 ≠ 0 := fun c hc hcw => by rw [dx _ _ (by omega) (by omega) (by omega) (by omega) (by omega)]; exact b6 c hc
  have d4 : ∀ c, c < 3 → δ (15 + 6 * c) 4 = if c = w then nI 3 else 0 := fun c hc => by rw [dx _ _ (by omega) (by omega) (by omega) (by omega) (by omega)]; exact bs c hc
  obtain ⟨μ, e2, m17, mf⟩ := run_s2 (d := δ) (n := n) dpg dz (fun c hc _ => by rw [dx _ _ (by omega) (by omega) (by omega) (by omega) (by omega)]; exact (b11 c hc).1) (fun c hc h => by
    by_cases hcw : c = w
    · subst hcw
      exact absurd o6 h
    · rw [d4 c hc, if_neg hcw]
      decide)
  have mx : ∀ a j, ¬ (a = 0 ∧ j = 10) → ¬ (a = 9 ∧ j = 1) → ¬ (a = 10 ∧ j = 1) → (∀ c, c < 4 → ¬ (a = 15 + 6 * c ∧ (j = 4 ∨ j = 11 ∨ j = 12 ∨ j = 13)) ∧ a ≠ 20 + 6 * c ∧ ¬ (a = 17 + 6 * c ∧ j = 17)) → ¬ (a = 15 + 6 * w ∧ (j = 6 ∨ j = 7)) → ¬ (a = 11 ∧ j = 3) → a ≠ 12 → a ≠ 13 → a ≠ 14 → μ a j = σ a j := fun a j g0 g1 g2 g3 g4 g5 g6 g7 g8 => by
    rw [mf a j (fun c hc => by have := g3 c hc; omega), dx a j g4 g5 g6 g7 g8, bx a j g0 g1 g2 (fun c hc => ⟨(g3 c hc).1, (g3 c hc).2.1⟩)]
  have hrun : sX8_runSlot (nI 2) ρ = some (0, μ) := by rw [e1 δ hsb, e2]
  have m10 : μ 0 10 = nI (2 + 1) := by rw [mf _ _ (fun c hc => by omega), dx _ _ (by omega) (by omega) (by omega) (by omega) (by omega)]; exact b0
  have m4 : ∀ c, c < 3 → μ (15 + 6 * c) 4 = if c = w then nI 3 else 0 := fun c hc => by rw [mf _ _ (fun d hd => by omega)]; exact d4 c hc
  have m6 : ∀ c, c < 3 → c ≠ w → μ (15 + 6 * c) 6 ≠ 0 := fun c hc hcw => by rw [mf _ _ (fun d hd => by omega)]; exact d6 c hc hcw
  have m6w : μ (15 + 6 * w) 6 = 0 := by rw [mf _ _ (fun d hd => by omega)]; exact o6
  have m7w : μ (15 + 6 * w) 7 = 0 := by rw [mf _ _ (fun d hd => by omega)]; exact o7
  have mqS : qS μ := qS_cj (fun a j h1 h2 => mx a j (by omega) (by omega) (by omega) (fun c hc => by omega) (by omega) (by omega) (by omega) (by omega) (by omega)) hqS
  have mqC : qC μ := qC_cg (fun c hc => ⟨mx _ _ (by omega) (by omega) (by omega) (fun d hd => by omega) (by omega) (by omega) (by omega) (by omega) (by omega), mx _ _ (by omega) (by omega) (by omega) (fun d hd => by omega) (by omega) (by omega) (by omega) (by omega) (by omega), fun j => mx _ _ (by omega) (by omega) (by omega) (fun d hd => by omega) (by omega) (by omega) (by omega) (by omega) (by omega)⟩) hqC
  have mqA : qA μ := qA_cg (fun a j h1 => mx a j (by omega) (by omega) (by omega) (fun c hc => by omega) (by omega) (by omega) (by omega) (by omega) (by omega)) hqA
  have mz : FZ μ := FZ_cg (fun c hc j hj => mx _ _ (by omega) (by omega) (by omega) (fun d hd => by omega) (by omega) (by omega) (by omega) (by omega) (by omega)) hz
  have m3 : ∀ i, μ 3 i = σ 3 i := fun i => mx _ _ (by omega) (by omega) (by omega) (fun d hd => by omega) (by omega) (by omega) (by omega) (by omega) (by omega)
  have m11 : μ 0 11 = nI 0 := (mx 0 11 (by omega) (by omega) (by omega) (fun c hc => by omega) (by omega) (by omega) (by omega) (by omega) (by omega)).trans h11
  have hf := fr_s (σ := σ) (u := μ) (τ := 2) hqS h10 h11 s0 s1 ((m3 2).trans s2) (by rw [onb_3 hon]; decide) (by rw [← hρ]; exact hrun) m10 m11 (by decide) mqC mqA mz
  have hn2 : onb μ = 2 := by
    unfold onb
    rcases (show w = 0 ∨ w = 1 ∨ w = 2 by omega) with rfl | rfl | rfl
    · rw [if_pos m6w, if_neg (m6 1 (by decide) (by decide)), if_neg (m6 2 (by decide) (by decide))]
    · rw [if_neg (m6 0 (by decide) (by decide)), if_pos m6w, if_neg (m6 2 (by decide) (by decide))]
    · rw [if_neg (m6 0 (by decide) (by decide)), if_neg (m6 1 (by decide) (by decide)), if_pos m6w]
  rw [hn2] at hf
  have px : ∀ a j, a < 70 → plc μ a j = μ a j := fun a j h => by rw [plc_fr _ h]
  have p3 : ∀ i, plc μ 3 i = σ 3 i := fun i => (px 3 i (by decide)).trans (m3 i)
  have p9 : plc μ 9 1 = nI n := by
    rw [px _ _ (by omega), mf _ _ (fun c hc => by omega), dx _ _ (by omega) (by omega) (by omega) (by omega) (by omega)]
    exact b9
  have p10 : plc μ 10 1 = nI n := by
    rw [px _ _ (by omega), mf _ _ (fun c hc => by omega), dx _ _ (by omega) (by omega) (by omega) (by omega) (by omega)]
    exact b10
  refine ⟨plc μ, hf, ⟨qS_cj (fun a j h1 h2 => px a j h2) mqS, qC_cg (fun c hc => ⟨px _ _ (by omega), px _ _ (by omega), fun j => px _ _ (by omega)⟩) mqC, plc_qA mqA, FZ_cg (fun c hc j hj => px _ _ (by omega)) mz⟩, PG_cg (fun a h1 h2 j hj => (px a j (by omega)).trans (mx a j (by omega) (by omega) (by omega) (fun c hc => by omega) (by omega) (by omega) (by omega) (by omega) (by omega))) hpg, ⟨(px 0 10 (by decide)).trans m10, (px 0 11 (by decide)).trans m11, (p3 0).trans s0, (p3 1).trans s1, (p3 2).trans s2⟩, fun c hc hcw => by rw [px _ _ (by omega)]; exact m6 c hc hcw, ⟨(px _ _ (by omega)).trans m6w, (px _ _ (by omega)).trans m7w⟩, fun c hc => by rw [px _ _ (by omega)]; exact m4 c hc, ?_, fun c hc hcw => ?_, ⟨?_, ?_, ?_, ?_⟩, fun i hi => ?_, ?_, p9, fun c hc hcw => ?_⟩
  · rw [px _ _ (by omega), mx _ _ (by omega) (by omega) (by omega) (fun d hd => by omega) (by omega) (by omega) (by omega) (by omega) (by omega)]; exact h5
  · rw [px _ _ (by omega), mx _ _ (by omega) (by omega) (by omega) (fun d hd => by omega) (by omega) (by omega) (by omega) (by omega) (by omega)]; exact h5n c hc hcw
  · rw [px _ _ (by omega), mf _ _ (fun c hc => by omega)]; exact o11
  · rw [px _ _ (by omega), mf _ _ (fun c hc => by omega)]; exact o12
  · rw [px _ _ (by omega), mf _ _ (fun c hc => by omega)]; exact o13
  · rw [px _ _ (by omega), mf _ _ (fun c hc => by omega)]; exact o14
  · by_cases hi1 : i = 1
    · subst hi1
      rw [p9, p10]
    · rw [px _ _ (by omega), px _ _ (by omega), mx _ _ (by omega) (by omega) (by omega) (fun d hd => by omega) (by omega) (by omega) (by omega) (by omega) (by omega), mx _ _ (by omega) (by omega) (by omega) (fun d hd => by omega) (by omega) (by omega) (by omega) (by omega) (by omega)]
      exact hout i hi hi1
  · rw [px _ _ (by omega), mx _ _ (by omega) (by omega) (by omega) (fun d hd => by omega) (by omega) (by omega) (by omega) (by omega) (by omega)]; exact h14
  · rw [px _ _ (by omega), m17 c (by omega) (fun _ => d6 c hc hcw), dx _ _ (by omega) (by omega) (by omega) (by omega) (by omega), (b11 c (by omega)).2, rs]
    exact hsc c (by omega) hcw
/-- brought back: as at first, but for its words, the log, the outputs -/
def SB (n w : Nat) (σ : TS) : Prop := (qS σ ∧ qC σ ∧ qA σ ∧ FZ σ) ∧ PG n σ ∧ (σ 0 10 = nI 3 ∧ σ 0 11 = nI 0 ∧ σ 3 0 = -1 ∧ σ 3 1 = nI 2 ∧ σ 3 2 = -1) ∧ (∀ c, c < 3 → σ (15 + 6 * c) 6 ≠ 0) ∧ (∀ c, c < 3 → σ (15 + 6 * c) 4 = 0) ∧ (∀ c, c < 4 → σ (15 + 6 * c) 5 = -1) ∧ σ 11 3 = nI 2 ∧ (∀ i, i < 4 → σ 9 i = σ 10 i)
theorem SB_step {n w : Nat} {σ : TS} (hn : n < 8000) (hw : w < 3) (h : SB n w σ) : ∃ u, sX8_frame σ = some (nI 3, u) ∧ u (15 + 6 * w) 4 = 0 ∧ u 9 1 = nI n ∧ (∀ i, i < 4 → u 9 i = u 10 i) ∧ (∀ c, c < 3 → u (15 + 6 * c) 6 ≠ 0 ∧ u (15 + 6 * c) 4 = 0) ∧ u 11 3 = nI 2 := by
  obtain ⟨⟨hqS, hqC, hqA, hz⟩, hpg, ⟨h10, h11, s0, s1, s2⟩, hon, h4, h5, hlog, hout⟩ := h
  have hsc : ∀ c, c < 4 → stkT σ c 3 (nI n) = nI n := fun c hc => stk_no hn (by decide) (h5 c hc)
  obtain ⟨ρ, hρ⟩ : ∃ ρ, ρ = st2 σ 0 10 (nI (3 + 1)) := ⟨_, rfl⟩
  have r1 : ∀ a j, ¬ (a = 0 ∧ j = 10) → ρ a j = σ a j := fun a j h => by rw [hρ]; exact st2_off _ _ h
  have rs : ∀ c, stkT ρ c 3 (nI n) = stkT σ c 3 (nI n) := fun c => stkT_cg (r1 _ _ (by omega)) (r1 _ _ (by omega)) (r1 _ _ (by omega)) 3 (nI n)
  have r4 : ∀ c, c < 3 → ρ (15 + 6 * c) 4 = 0 := fun c hc => by rw [r1 _ _ (by omega)]; exact h4 c hc
  obtain ⟨β, e1, b9, b10, b11, b4, bf⟩ := run_s1 (σ := ρ) (n := n) hw (PG_cg (fun a h1 h2 j hj => r1 a j (by omega)) hpg) (FZ_cg (fun c hc j hj => r1 _ _ (by omega)) hz) (fun c hc => by rw [r1 _ _ (by omega)]; exact hon c hc) (fun c hc => by rw [r4 c hc]; decide) (fun c hc hcw => by rw [rs]; exact hsc c hc)
  have bx : ∀ a j, ¬ (a = 0 ∧ j = 10) → ¬ (a = 9 ∧ j = 1) → ¬ (a = 10 ∧ j = 1) → (∀ c, c < 4 → ¬ (a = 15 + 6 * c ∧ (j = 4 ∨ j = 11 ∨ j = 12 ∨ j = 13)) ∧ a ≠ 20 + 6 * c) → β a j = σ a j := fun a j g0 g1 g2 g3 => by rw [bf a j g1 g2 g3, r1 a j g0]
  have bs : ∀ c, c < 3 → β (15 + 6 * c) 4 = 0 := fun c hc => by rw [b4 c hc, rs c, r4 c hc, hsc c (by omega), if_pos rfl]
  have blt : ∀ c, c < 3 → β (15 + 6 * c) 6 ≠ 0 → β (15 + 6 * c) 4 < 3 := fun c hc _ => by rw [bs c hc]; decide
  have bpg : PG n β := PG_cg (fun a h1 h2 j hj => bx a j (by omega) (by omega) (by omega) (fun c hc => by omega)) hpg
  have bz : FZ β := FZ_cg (fun c hc j hj => bx _ _ (by omega) (by omega) (by omega) (fun d hd => by omega)) hz
  obtain ⟨μ, e2, m17, mf⟩ := run_s2 (d := β) (n := n) bpg bz (fun c hc _ => (b11 c hc).1) blt
  have mx : ∀ a j, ¬ (a = 0 ∧ j = 10) → ¬ (a = 9 ∧ j = 1) → ¬ (a = 10 ∧ j = 1) → (∀ c, c < 4 → ¬ (a = 15 + 6 * c ∧ (j = 4 ∨ j = 11 ∨ j = 12 ∨ j = 13)) ∧ a ≠ 20 + 6 * c ∧ ¬ (a = 17 + 6 * c ∧ j = 17)) → μ a j = σ a j := fun a j g0 g1 g2 g3 => by
    rw [mf a j (fun c hc => by have := g3 c hc; omega), bx a j g0 g1 g2 (fun c hc => ⟨(g3 c hc).1, (g3 c hc).2.1⟩)]
  have hrun : sX8_runSlot (nI 2) ρ = some (0, μ) := by rw [e1 β (c_stA blt), e2]
  have m10 : μ 0 10 = nI (3 + 1) := by rw [mf _ _ (fun c hc => by omega), bf _ _ (by omega) (by omega) (fun c hc => by omega), hρ, st2_eq]
  have m6 : ∀ c, c < 3 → μ (15 + 6 * c) 6 ≠ 0 := fun c hc => by rw [mx _ _ (by omega) (by omega) (by omega) (fun d hd => by omega)]; exact hon c hc
  have m4 : ∀ c, c < 3 → μ (15 + 6 * c) 4 = 0 := fun c hc => by rw [mf _ _ (fun d hd => by omega)]; exact bs c hc
  have m3 : ∀ i, μ 3 i = σ 3 i := fun i => mx _ _ (by omega) (by omega) (by omega) (fun d hd => by omega)
  have hf := fr_s (σ := σ) (u := μ) (τ := 3) hqS h10 h11 s0 s1 ((m3 2).trans s2) (by rw [onb_3 hon]; decide) (by rw [← hρ]; exact hrun) m10 ((mx 0 11 (by omega) (by omega) (by omega) (fun c hc => by omega)).trans h11) (by decide)
    (qC_cg (fun c hc => ⟨mx _ _ (by omega) (by omega) (by omega) (fun d hd => by omega), mx _ _ (by omega) (by omega) (by omega) (fun d hd => by omega), fun j => mx _ _ (by omega) (by omega) (by omega) (fun d hd => by omega)⟩) hqC)
    (qA_cg (fun a j h1 => mx a j (by omega) (by omega) (by omega) (fun c hc => by omega)) hqA)
    (FZ_cg (fun c hc j hj => mx _ _ (by omega) (by omega) (by omega) (fun d hd => by omega)) hz)
  rw [onb_3 m6] at hf
  have px : ∀ a j, a < 70 → plc μ a j = μ a j := fun a j h => by rw [plc_fr _ h]
  have p9 : plc μ 9 1 = nI n := by rw [px _ _ (by omega), mf _ _ (fun c hc => by omega)]; exact b9
  have p10 : plc μ 10 1 = nI n := by rw [px _ _ (by omega), mf _ _ (fun c hc => by omega)]; exact b10
  refine ⟨plc μ, hf, (px _ _ (by omega)).trans (m4 w hw), p9, fun i hi => ?_, fun c hc => ⟨by rw [px _ _ (by omega)]; exact m6 c hc, (px _ _ (by omega)).trans (m4 c hc)⟩, ?_⟩
  · by_cases hi1 : i = 1
    · subst hi1
      rw [p9, p10]
    · rw [px _ _ (by omega), px _ _ (by omega), mx _ _ (by omega) (by omega) (by omega) (fun d hd => by omega), mx _ _ (by omega) (by omega) (by omega) (fun d hd => by omega)]
      exact hout i hi
  · rw [px _ _ (by omega), mx _ _ (by omega) (by omega) (by omega) (fun d hd => by omega)]
    exact hlog
