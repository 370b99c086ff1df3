/-! ===== without a fault, all that are on do as the plain one ===== -/
def FF (μ : TS) : Prop := (∀ i, i < 4 → μ 22 i = μ 23 i) ∧ (∀ i, μ 7 i = 0) ∧ (∀ c, c < 3 → μ 17 c = 0) ∧ (∀ c, c < 3 → μ 10 c = 0 → μ 12 c = 0 ∧ ∀ i, i < 18 → μ 6 (18 * c + i) = μ 6 (54 + i))
def FQ (μ : TS) : Prop := InvB μ ∧ (∀ i, okV (μ 1 i) (μ 3 i)) ∧ μ 10 3 = 0 ∧ μ 17 3 = 0 ∧ FF μ ∧ ∃ c, c < 3 ∧ μ 10 c = 0
theorem fq_fr {μ v : TS} (h : FQ μ) (hB : InvB v) (e : ∀ k, k = 1 ∨ k = 3 ∨ k = 6 ∨ k = 7 ∨ k = 10 ∨ k = 12 ∨ k = 17 ∨ k = 22 ∨ k = 23 → v k = μ k) : FQ v := by
  unfold FQ FF
  rw [e 1 (by decide), e 3 (by decide), e 6 (by decide), e 7 (by decide), e 10 (by decide), e 12 (by decide), e 17 (by decide), e 22 (by decide), e 23 (by decide)]
  exact ⟨hB, h.2⟩
theorem stk_no {μ : TS} {c r : Nat} (hr : r < 4) (h : μ 17 c = 0) (x : Int32) : stk μ c r x = x.toInt16.toInt32 := by
  unfold stk
  rw [h, if_neg (fun g => nI_ne0 (n := r + 1) (by omega) (by omega) ((nI_1 r).symm.trans g.symm))]
/-- what the plain one's step leaves, computer c's step leaves too -/
def POST (c : Nat) (w m : TS) : Prop := (∀ i, i < 4 → w 8 (4 * c + i) = m 8 (4 * 3 + i)) ∧ (∀ i, i < 18 → w 6 (18 * c + i) = m 6 (18 * 3 + i)) ∧ w 9 c = m 9 3 ∧ w 20 c = m 20 3 ∧ (m 20 3 ≠ 0 → w 21 c = m 21 3)
def PRE (c : Nat) (w m : TS) : Prop := (∀ i, i < 4 → w 8 (4 * c + i) = m 8 (4 * 3 + i)) ∧ (∀ i, i < 18 → w 6 (18 * c + i) = m 6 (18 * 3 + i)) ∧ w 9 c = m 9 3
theorem l_row {a b : TS} {k q c r n : Nat} {x y : Int32} (hq : q = 0 ∨ q ≠ 0) (h : ∀ i, i < n → a k (q * c + i) = b k (q * 3 + i)) (hxy : x = y) : ∀ i, i < n → st2 a k (q * c + r) x k (q * c + i) = st2 b k (q * 3 + r) y k (q * 3 + i) := by
  intro i hi
  by_cases hir : i = r
  · subst hir
    rw [st2_eq, st2_eq, hxy]
  · rw [st2_nj _ _ (by omega), st2_nj _ _ (by omega)]
    exact h i hi
theorem eff_like {c p t r m : Nat} {K nv : Int32} {w ν : TS} (hi : iAt p t K nv r m ν) (h : PRE c w ν) (h27 : w 27 = ν 27) (hw17 : w 17 c = 0) (hν17 : ν 17 3 = 0) (hp : p < 3) : POST c (mEff c r m (6 * p + m) t K nv w) (mEff 3 r m (6 * p + m) t K nv ν) := by
  obtain ⟨ht, g1, g2, g3, hr, hn, hn4, hn6⟩ := hi
  obtain ⟨p8, p6, p9⟩ := h
  have s1 : ∀ x y, x = y → stk w c r x = stk ν 3 r y := fun x y e => by rw [stk_no hr hw17, stk_no hr hν17, e]
  have q8 : ∀ i, i < 4 → (st2 (st2 w 20 c 0) 9 c (nI t + 1)) 8 (4 * c + i) = (st2 (st2 ν 20 3 0) 9 3 (nI t + 1)) 8 (4 * 3 + i) := p8
  have q6 : ∀ i, i < 18 → (st2 (st2 w 20 c 0) 9 c (nI t + 1)) 6 (18 * c + i) = (st2 (st2 ν 20 3 0) 9 3 (nI t + 1)) 6 (18 * 3 + i) := p6
  have q9 : (st2 (st2 w 20 c 0) 9 c (nI t + 1)) 9 c = (st2 (st2 ν 20 3 0) 9 3 (nI t + 1)) 9 3 := by rw [st2_eq, st2_eq]
  have q20 : (st2 w 20 c 0) 20 c = (st2 ν 20 3 0) 20 3 := by rw [st2_eq, st2_eq]
  have z20 : (st2 ν 20 3 0) 20 3 = 0 := st2_eq _ _ _ _
  unfold mEff POST
  by_cases k97 : K = 97
  · rw [if_pos k97, if_pos k97]
    refine ⟨l_row (by omega) q8 (s1 _ _ ?_), q6, q9, q20, fun h => absurd z20 h⟩
    rw [p8 r hr, p8 m (hn4 (Or.inl k97))]
  rw [if_neg k97, if_neg k97]
  by_cases k105 : K = 105
  · rw [if_pos k105, if_pos k105]
    exact ⟨l_row (by omega) q8 (s1 _ _ (by rw [h27])), q6, q9, q20, fun h => absurd z20 h⟩
  rw [if_neg k105, if_neg k105]
  by_cases k108 : K = 108
  · rw [if_pos k108, if_pos k108]
    exact ⟨l_row (by omega) q8 (s1 _ _ rfl), q6, q9, q20, fun h => absurd z20 h⟩
  rw [if_neg k108, if_neg k108]
  by_cases k109 : K = 109
  · rw [if_pos k109, if_pos k109]
    exact ⟨q8, l_row (by omega) q6 (p8 r hr), q9, q20, fun h => absurd z20 h⟩
  rw [if_neg k109, if_neg k109]
  by_cases k111 : K = 111
  · rw [if_pos k111, if_pos k111]
    refine ⟨q8, q6, q9, ?_, fun _ => ?_⟩
    · show (st2 (st2 (st2 w 20 c 0) 9 c (nI t + 1)) 20 c (nv + 1)) 20 c = (st2 (st2 (st2 ν 20 3 0) 9 3 (nI t + 1)) 20 3 (nv + 1)) 20 3
      rw [st2_eq, st2_eq]
    · rw [st2_eq, st2_eq, p8 r hr]
  rw [if_neg k111, if_neg k111]
  by_cases k114 : K = 114
  · have hm6 : m < 6 := hn6 (Or.inr k114)
    rw [if_pos k114, if_pos k114]
    refine ⟨?_, p6, ?_, q20, fun h => absurd z20 h⟩
    · have q8' : ∀ i, i < 4 → (st2 (mdd c (6 * p + m) (st2 w 20 c 0)) 9 c (nI t + 1)) 8 (4 * c + i) = (st2 (mdd 3 (6 * p + m) (st2 ν 20 3 0)) 9 3 (nI t + 1)) 8 (4 * 3 + i) := p8
      exact l_row (by omega) q8' (s1 _ _ (p6 _ (by omega)))
    · show (st2 (mdd c (6 * p + m) (st2 w 20 c 0)) 9 c (nI t + 1)) 9 c = (st2 (mdd 3 (6 * p + m) (st2 ν 20 3 0)) 9 3 (nI t + 1)) 9 3
      rw [st2_eq, st2_eq]
  rw [if_neg k114, if_neg k114]
  by_cases k115 : K = 115
  · rw [if_pos k115, if_pos k115]
    refine ⟨l_row (by omega) q8 (s1 _ _ ?_), q6, q9, q20, fun h => absurd z20 h⟩
    rw [p8 r hr, p8 m (hn4 (Or.inr (Or.inl k115)))]
  rw [if_neg k115, if_neg k115]
  refine ⟨q8, q6, ?_, q20, fun h => absurd z20 h⟩
  rw [st2_eq, st2_eq, p8 r hr]
/-- one of the three, as the plain one did -/
theorem d_like {c p t s r m : Nat} {K nv : Int32} {w ν : TS} (hc : c < 3) (hp : p < 3) (hi : iAt p t K nv r m ν) (hνt : ν 9 3 = nI t) (hs : ν 4 p = nI s) (hts : t < s) (hs2 : s < 2 ^ 31) (hw : ∀ k, k = 1 ∨ k = 2 ∨ k = 3 ∨ k = 4 ∨ k = 10 ∨ k = 17 ∨ k = 27 → w k = ν k) (hB : InvB w) (h7 : ∀ i, w 7 i = 0) (h17 : ∀ c, c < 3 → ν 17 c = 0) (hν17 : ν 17 3 = 0) (hpre : ν 10 c = 0 → PRE c w ν) :
    ∃ w', sX9_does (nI c) (nI p) w = some (0, w') ∧ InvB w' ∧ (∀ i, w' 7 i = 0) ∧ (∀ k, k ≠ 6 ∧ k ≠ 7 ∧ k ≠ 8 ∧ k ≠ 9 ∧ k ≠ 16 ∧ k ≠ 20 ∧ k ≠ 21 → w' k = w k) ∧ (∀ k j, ¬ ownM c k j → w' k j = w k j) ∧ (ν 10 c = 0 → POST c w' (mEff 3 r m (6 * p + m) t K nv ν)) := by
  by_cases h10 : ν 10 c = 0
  · have hP := hpre h10
    have hiw : iAt p t K nv r m w := by
      unfold iAt at hi ⊢
      rw [hw 1 (by decide), hw 2 (by decide), hw 3 (by decide)]
      exact hi
    have hcz : ∀ i, cntb (w 7 i) ≤ 1 := fun i => by
      rw [h7 i, cnt_z]
      decide
    have hrow : ¬ m < 6 → mEff c r m (6 * p + m) t K nv w = mEff c r m 0 t K nv w := fun h6 => by
      have n109 : ¬ K = 109 := fun h => h6 (hi.2.2.2.2.2.2.2 (Or.inl h))
      have n114 : ¬ K = 114 := fun h => h6 (hi.2.2.2.2.2.2.2 (Or.inr h))
      unfold mEff
      rw [if_neg n109, if_neg n114, if_neg n109, if_neg n114]
    refine ⟨_, m_does_left (by omega) hp (by rw [hw 10 (by decide)]; exact h10) (hP.2.2.trans hνt) (by rw [hw 4 (by decide)]; exact hs) hts hs2 hiw (fun i => hB 7 i) (fun _ => hcz _), iB_eff hB hiw, fun i => mEff_7 w (h7 i), fun k hk => mEff_fr w hk, fun k j hk => ?_, fun _ => eff_like hi hP (hw 27 (by decide)) (by rw [hw 17 (by decide)]; exact h17 c hc) hν17 hp⟩
    by_cases h6 : m < 6
    · exact mEff_own w (by omega) hi.2.2.2.2.1 hk
    · rw [hrow h6]
      exact mEff_own w (by omega) hi.2.2.2.2.1 hk
  · refine ⟨_, m_does_off _ (by omega) (by rw [hw 10 (by decide)]; exact h10), iB_up (k := 20) (v := 0) hB ⟨by decide, by decide⟩, h7, fun k hk => st2_ne _ _ _ (by omega), fun k j hk => ?_, fun h => absurd h h10⟩
    unfold ownM at hk
    exact st2_off _ _ (by omega)
def FB (ν : TS) : Prop := FQ ν ∧ ∀ c, c < 3 → ν 10 c = 0 → ν 9 c = ν 9 3 ∧ ∀ i, i < 4 → ν 8 (4 * c + i) = ν 8 (4 * 3 + i)
theorem beat_F {p : Nat} (hp : p < 3) {ν : TS} (h : FB ν) (KM : Int32 → Int32 → TS → Option (Int32 × TS)) (b : Nat) : ∃ v, ((sX9_does (nI 3) (nI p) ν).bind (fun z => sX9_run_32 KM (nI p) (nI b) z.2)) = KM (nI p) (nI (b + 1)) v ∧ FB v := by
  obtain ⟨⟨hB, hV, h103, h173, ⟨f1, f2, f3, f4⟩, hon⟩, hl⟩ := h
  by_cases hd : dn ν p 3 = true
  · have hB1 : InvB (st2 ν 20 3 0) := iB_up (k := 20) (v := 0) hB ⟨by decide, by decide⟩
    have e : hM (st2 ν 20 3 0) = st2 ν 20 3 0 := if_pos rfl
    have haD : aD (st2 ν 20 3 0) p = true := by
      have hdc : ∀ c, c < 3 → dn ν p c = true := fun c hc => by
        by_cases h10 : ν 10 c = 0
        · unfold dn at hd ⊢
          rw [decide_eq_true h103] at hd
          rw [decide_eq_true h10, (hl c hc h10).1]
          exact hd
        · unfold dn
          rw [decide_eq_false h10]
          rfl
      show (dn ν p 0 && dn ν p 1 && dn ν p 2) = true
      rw [hdc 0 (by decide), hdc 1 (by decide), hdc 2 (by decide)]
      rfl
    refine ⟨st2 ν 20 3 0, ?_, ⟨⟨hB1, hV, h103, h173, ⟨f1, f2, f3, f4⟩, hon⟩, hl⟩⟩
    rw [m_does_dn hB (by decide) hp hd, Option.bind_some, m_32 hB1, e, m_60 _ hp, if_pos haD, nI_1]
  · obtain ⟨t, ht, h9⟩ := b_nI hB 9 3 (n := 10) rfl
    obtain ⟨s, hs, h4⟩ := b_nI hB 4 p (n := 10) rfl
    have hts : t < s := by
      refine Decidable.byContradiction (fun hc => hd ?_)
      unfold dn
      rw [h9, h4, decide_eq_false (nI_nlt (by omega) (by omega)), Bool.and_false]
      rfl
    obtain ⟨r, m, hi⟩ := iAt_of (p := p) hB hV (show t < 10 by omega)
    generalize hKe : ν 1 (10 * p + t) = K at hi
    generalize hne : ν 3 (10 * p + t) = nv at hi
    have hcz : ∀ i, cntb (ν 7 i) ≤ 1 := fun i => by
      rw [f2 i, cnt_z]
      decide
    have e3 := m_does_left (c := 3) (by decide) hp h103 h9 h4 hts (by omega) hi (fun i => hB 7 i) (fun _ => hcz _)
    have B1 := iB_eff (c := 3) hB hi
    have F1 : ∀ k, k ≠ 6 ∧ k ≠ 7 ∧ k ≠ 8 ∧ k ≠ 9 ∧ k ≠ 16 ∧ k ≠ 20 ∧ k ≠ 21 → mEff 3 r m (6 * p + m) t K nv ν k = ν k := fun k hk => mEff_fr ν hk
    have O1 : ∀ k j, ¬ ownM 3 k j → mEff 3 r m (6 * p + m) t K nv ν k j = ν k j := fun k j hk => by
      by_cases h6 : m < 6
      · exact mEff_own ν (by omega) hi.2.2.2.2.1 hk
      · have hrow : mEff 3 r m (6 * p + m) t K nv ν = mEff 3 r m 0 t K nv ν := by
          have n109 : ¬ K = 109 := fun h => h6 (hi.2.2.2.2.2.2.2 (Or.inl h))
          have n114 : ¬ K = 114 := fun h => h6 (hi.2.2.2.2.2.2.2 (Or.inr h))
          unfold mEff
          rw [if_neg n109, if_neg n114, if_neg n109, if_neg n114]
        rw [hrow]
        exact mEff_own ν (by omega) hi.2.2.2.2.1 hk
    have Z1 : ∀ i, mEff 3 r m (6 * p + m) t K nv ν 7 i = 0 := fun i => mEff_7 ν (f2 i)
    generalize hm1 : mEff 3 r m (6 * p + m) t K nv ν = m1 at *
    -- the three
    have hM1 : ∀ k, k ≠ 6 ∧ k ≠ 7 ∧ k ≠ 8 ∧ k ≠ 9 ∧ k ≠ 16 ∧ k ≠ 20 ∧ k ≠ 21 ∧ k ≠ 23 → hM m1 k = ν k := fun k hk => by rw [hM_fr m1 (by omega), F1 k (by omega)]
    have hMo : ∀ k j, ¬ ownM 3 k j → k ≠ 23 → hM m1 k j = ν k j := fun k j hk h23 => by rw [hM_fr m1 h23, O1 k j hk]
    have pre : ∀ c, c < 3 → ν 10 c = 0 → PRE c (hM m1) ν := fun c hc h10 => by
      refine ⟨fun i hi => ?_, fun i hi => ?_, ?_⟩
      · rw [hMo 8 _ (by unfold ownM; omega) (by decide)]
        exact (hl c hc h10).2 i hi
      · rw [hMo 6 _ (by unfold ownM; omega) (by decide)]
        exact (f4 c hc h10).2 i hi
      · rw [hMo 9 _ (by unfold ownM; omega) (by decide)]
        exact (hl c hc h10).1
    have haD : aD (hM m1) p = false := by
      obtain ⟨c, hc, h10⟩ := hon
      have hcf : dn (hM m1) p c = false := by
        unfold dn
        rw [hM1 10 (by decide), hM1 4 (by decide), hMo 9 c (by unfold ownM; omega) (by decide), (hl c hc h10).1, decide_eq_true h10, h9, h4, decide_eq_true (nI_lt hts (by omega))]
        rfl
      unfold aD
      rcases (show c = 0 ∨ c = 1 ∨ c = 2 by omega) with rfl | rfl | rfl
      · rw [hcf]
        rfl
      · rw [hcf, Bool.and_false]
        rfl
      · rw [hcf, Bool.and_false]
    have hsh : ∀ w : TS, (∀ k, k ≠ 6 ∧ k ≠ 7 ∧ k ≠ 8 ∧ k ≠ 9 ∧ k ≠ 16 ∧ k ≠ 20 ∧ k ≠ 21 ∧ k ≠ 23 → w k = ν k) → ∀ k, k = 1 ∨ k = 2 ∨ k = 3 ∨ k = 4 ∨ k = 10 ∨ k = 17 ∨ k = 27 → w k = ν k := fun w hw k hk => hw k (by omega)
    obtain ⟨w1, a1, b1, z1, k1, o1, p1⟩ := d_like (w := hM m1) (c := 0) (by decide) hp hi h9 h4 hts (by omega) (hsh _ hM1) (iB_hM B1) (fun i => by rw [hM_fr m1 (by decide)]; exact Z1 i) f3 h173 (pre 0 (by decide))
    have g1 : ∀ k, k ≠ 6 ∧ k ≠ 7 ∧ k ≠ 8 ∧ k ≠ 9 ∧ k ≠ 16 ∧ k ≠ 20 ∧ k ≠ 21 ∧ k ≠ 23 → w1 k = ν k := fun k hk => by rw [k1 k (by omega), hM1 k hk]
    obtain ⟨w2, a2, b2, z2, k2, o2, p2⟩ := d_like (w := w1) (c := 1) (by decide) hp hi h9 h4 hts (by omega) (hsh _ g1) b1 z1 f3 h173 (fun h10 => by
      obtain ⟨q1, q2, q3⟩ := pre 1 (by decide) h10
      exact ⟨fun i hi => by rw [o1 8 _ (by unfold ownM; omega)]; exact q1 i hi, fun i hi => by rw [o1 6 _ (by unfold ownM; omega)]; exact q2 i hi, by rw [o1 9 _ (by unfold ownM; omega)]; exact q3⟩)
    have g2 : ∀ k, k ≠ 6 ∧ k ≠ 7 ∧ k ≠ 8 ∧ k ≠ 9 ∧ k ≠ 16 ∧ k ≠ 20 ∧ k ≠ 21 ∧ k ≠ 23 → w2 k = ν k := fun k hk => by rw [k2 k (by omega), g1 k hk]
    obtain ⟨w3, a3, b3, z3, k3, o3, p3⟩ := d_like (w := w2) (c := 2) (by decide) hp hi h9 h4 hts (by omega) (hsh _ g2) b2 z2 f3 h173 (fun h10 => by
      obtain ⟨q1, q2, q3⟩ := pre 2 (by decide) h10
      exact ⟨fun i hi => by rw [o2 8 _ (by unfold ownM; omega), o1 8 _ (by unfold ownM; omega)]; exact q1 i hi, fun i hi => by rw [o2 6 _ (by unfold ownM; omega), o1 6 _ (by unfold ownM; omega)]; exact q2 i hi, by rw [o2 9 _ (by unfold ownM; omega), o1 9 _ (by unfold ownM; omega)]; exact q3⟩)
    have g3 : ∀ k, k ≠ 6 ∧ k ≠ 7 ∧ k ≠ 8 ∧ k ≠ 9 ∧ k ≠ 16 ∧ k ≠ 20 ∧ k ≠ 21 ∧ k ≠ 23 → w3 k = ν k := fun k hk => by rw [k3 k (by omega), g2 k hk]
    rw [hm1] at p1 p2 p3
    have post : ∀ c, c < 3 → ν 10 c = 0 → POST c w3 m1 := fun c hc h10 => by
      rcases (show c = 0 ∨ c = 1 ∨ c = 2 by omega) with rfl | rfl | rfl
      · obtain ⟨q1, q2, q3, q4, q5⟩ := p1 h10
        exact ⟨fun i hi => by rw [o3 8 _ (by unfold ownM; omega), o2 8 _ (by unfold ownM; omega)]; exact q1 i hi, fun i hi => by rw [o3 6 _ (by unfold ownM; omega), o2 6 _ (by unfold ownM; omega)]; exact q2 i hi, by rw [o3 9 _ (by unfold ownM; omega), o2 9 _ (by unfold ownM; omega)]; exact q3, by rw [o3 20 _ (by unfold ownM; omega), o2 20 _ (by unfold ownM; omega)]; exact q4, fun hz => by rw [o3 21 _ (by unfold ownM; omega), o2 21 _ (by unfold ownM; omega)]; exact q5 hz⟩
      · obtain ⟨q1, q2, q3, q4, q5⟩ := p2 h10
        exact ⟨fun i hi => by rw [o3 8 _ (by unfold ownM; omega)]; exact q1 i hi, fun i hi => by rw [o3 6 _ (by unfold ownM; omega)]; exact q2 i hi, by rw [o3 9 _ (by unfold ownM; omega)]; exact q3, by rw [o3 20 _ (by unfold ownM; omega)]; exact q4, fun hz => by rw [o3 21 _ (by unfold ownM; omega)]; exact q5 hz⟩
      · exact p3 h10
    have own3 : ∀ k j, ownM 3 k j → w3 k j = m1 k j := fun k j hk => by
      have hk2 := hk
      unfold ownM at hk2
      rw [o3 k j (by unfold ownM; omega), o2 k j (by unfold ownM; omega), o1 k j (by unfold ownM; omega), hM_fr m1 (by omega)]
    have e10 := g3 10 (by decide)
    have e12 := g3 12 (by decide)
    have sk3 : SK w3 := fun c hc h10 => by
      rw [e10] at h10
      rw [e12, (f4 c hc h10).1]
      decide
    have hlb : ∀ c d, c < 3 → d < 3 → w3 10 c = 0 → w3 10 d = 0 → lb w3 c d = true := fun c d hc hd' hc10 hd10 => by
      rw [e10] at hc10 hd10
      obtain ⟨-, -, -, q4, q5⟩ := post c hc hc10
      obtain ⟨-, -, -, r4, r5⟩ := post d hd' hd10
      refine decide_eq_true ⟨q4.trans r4.symm, ?_⟩
      by_cases h0 : m1 20 3 = 0
      · exact Or.inl (q4.trans h0)
      · exact Or.inr ((q5 h0).trans (r5 h0).symm)
    obtain ⟨T, hT3, hT10⟩ := hon
    have hvote := (m_vlike b3 sk3 hlb).1 T hT3 (by rw [e10]; exact hT10)
    obtain ⟨-, -, -, t4, t5⟩ := post T hT3 hT10
    have e23 : w3 23 = hM m1 23 := by rw [k3 23 (by decide), k2 23 (by decide), k1 23 (by decide)]
    have base : ∀ V : TS, (∀ k, k ≠ 22 → V k = w3 k) → InvB V → (∀ i, i < 4 → V 22 i = w3 23 i) → FB V := fun V hV' hBV h22 => by
      have v10 : V 10 = ν 10 := (hV' 10 (by decide)).trans e10
      refine ⟨⟨hBV, ?_, ?_, ?_, ⟨?_, ?_, ?_, ?_⟩, ⟨T, hT3, by rw [v10]; exact hT10⟩⟩, ?_⟩
      · rw [hV' 1 (by decide), hV' 3 (by decide), g3 1 (by decide), g3 3 (by decide)]
        exact hV
      · rw [v10]
        exact h103
      · rw [hV' 17 (by decide), g3 17 (by decide)]
        exact h173
      · rw [hV' 23 (by decide)]
        exact h22
      · rw [hV' 7 (by decide)]
        exact z3
      · rw [hV' 17 (by decide), g3 17 (by decide)]
        exact f3
      · intro c hc hc10
        rw [v10] at hc10
        obtain ⟨q1, q2, q3, q4, q5⟩ := post c hc hc10
        rw [hV' 12 (by decide), e12, hV' 6 (by decide)]
        refine ⟨(f4 c hc hc10).1, fun i hi => ?_⟩
        rw [q2 i hi, own3 6 (54 + i) (by unfold ownM; omega)]
      · intro c hc hc10
        rw [v10] at hc10
        obtain ⟨q1, q2, q3, q4, q5⟩ := post c hc hc10
        rw [hV' 9 (by decide), hV' 8 (by decide), own3 9 3 (by unfold ownM; omega)]
        refine ⟨q3, fun i hi => ?_⟩
        rw [q1 i hi, own3 8 (4 * 3 + i) (by unfold ownM; omega)]
    refine ⟨if w3 20 T = 0 then w3 else st2 w3 22 ((w3 20 T - 1).toNatClampNeg) (w3 21 T), ?_, ?_⟩
    · rw [e3, Option.bind_some, m_32 B1, m_60 _ hp, if_neg (by rw [haD]; decide), a1, Option.bind_some]
      unfold sX9_run_74
      rw [show (1 : Int32) = nI 1 from rfl, a2, Option.bind_some]
      unfold sX9_run_80
      rw [show (2 : Int32) = nI 2 from rfl, a3, Option.bind_some]
      unfold sX9_run_86
      rw [hvote, Option.bind_some]
      unfold sX9_run_90
      rw [nI_1]
      rfl
    · by_cases h0 : m1 20 3 = 0
      · rw [if_pos (t4.trans h0)]
        refine base w3 (fun _ _ => rfl) b3 (fun i hi => ?_)
        have hh : hM m1 = m1 := if_pos h0
        rw [e23, hh, F1 23 (by decide), g3 22 (by decide)]
        exact f1 i hi
      · rw [if_neg (fun h => h0 (t4.symm.trans h)), t4, t5 h0]
        refine base _ (fun k hk => st2_ne _ _ _ hk) (iB_up (k := 22) b3 (B1 21 3)) (fun i hi => ?_)
        have hh : hM m1 = st2 m1 23 ((m1 20 3 - 1).toNatClampNeg) (m1 21 3) := if_neg h0
        rw [e23, hh]
        by_cases hg : i = (m1 20 3 - 1).toNatClampNeg
        · rw [hg, st2_eq, st2_eq]
        · rw [st2_nj _ _ hg, st2_nj _ _ hg, g3 22 (by decide), F1 23 (by decide)]
          exact f1 i hi
theorem run_F {p : Nat} (hp : p < 3) : ∀ (K b : Nat) (ν : TS), b + K = 30 → FB ν → ∃ v, sX9_run_20 (K + 1) (nI p) (nI b) ν = some (0, v) ∧ FQ v := by
  intro K
  induction K with
  | zero =>
    intro b ν hb h
    rw [show b = 30 by omega, m_fin hp]
    refine ⟨_, rfl, ?_⟩
    split
    · exact h.1
    · exact fq_fr h.1 (iB_up (k := 24) h.1.1 (i32_any _)) (fun k hk => st2_ne _ _ _ (by omega))
  | succ K ih =>
    intro b ν hb h
    obtain ⟨v, e1, e2⟩ := beat_F hp h (sX9_run_20 (K + 1)) b
    obtain ⟨v', g1, g2⟩ := ih (b + 1) v (by omega) e2
    refine ⟨v', ?_, g2⟩
    rw [m_20_def, if_neg (show ¬ (30 : Int32) ≤ nI b from nI_ge (b := 30) (by omega) (by decide)), show (3 : Int32) = nI 3 from rfl, e1, g1]
theorem iB_beg {μ : TS} (h : InvB μ) (c : Nat) : InvB (mBeg c μ) := by
  unfold mBeg
  exact iB_up (k := 8) (iB_up (k := 8) (iB_up (k := 8) (iB_up (k := 8) (iB_up (k := 9) (v := 0) h ⟨by decide, by decide⟩) (stk_rng _ _ _ _)) (stk_rng _ _ _ _)) (stk_rng _ _ _ _)) (stk_rng _ _ _ _)
theorem beg_0 {μ : TS} {c : Nat} (hc : c < 4) (h17 : μ 17 c = 0) : mBeg c μ 9 c = 0 ∧ (∀ i, i < 4 → mBeg c μ 8 (4 * c + i) = 0) ∧ (∀ j, j ≠ c → mBeg c μ 9 j = μ 9 j) ∧ (∀ j, ¬ (4 * c ≤ j ∧ j < 4 * c + 4) → mBeg c μ 8 j = μ 8 j) := by
  have hz : ∀ r, r < 4 → stk μ c r 0 = 0 := fun r hr => by
    rw [stk_no hr h17]
    rfl
  unfold mBeg
  rw [hz 0 (by decide), hz 1 (by decide), hz 2 (by decide), hz 3 (by decide)]
  refine ⟨?_, fun i hi => ?_, fun j hj => ?_, fun j hj => ?_⟩
  · rw [st2_ne _ _ _ (by decide), st2_ne _ _ _ (by decide), st2_ne _ _ _ (by decide), st2_ne _ _ _ (by decide), st2_eq]
  · rcases (show i = 0 ∨ i = 1 ∨ i = 2 ∨ i = 3 by omega) with rfl | rfl | rfl | rfl
    · rw [st2_nj _ _ (by omega), st2_nj _ _ (by omega), st2_nj _ _ (by omega), st2_eq]
    · rw [st2_nj _ _ (by omega), st2_nj _ _ (by omega), st2_eq]
    · rw [st2_nj _ _ (by omega), st2_eq]
    · rw [st2_eq]
  · rw [st2_ne _ _ _ (by decide), st2_ne _ _ _ (by decide), st2_ne _ _ _ (by decide), st2_ne _ _ _ (by decide), st2_nj _ _ hj]
  · rw [st2_nj _ _ (by omega), st2_nj _ _ (by omega), st2_nj _ _ (by omega), st2_nj _ _ (by omega), st2_ne _ _ _ (by decide)]
theorem slot_F {p : Nat} (hp : p < 3) {μ v : TS} (h : FQ μ) (hv : sX9_run (nI p) μ = some (0, v)) : FQ v := by
  have mdef : ∀ K (a : Int32) (ν : TS), sX9_run_2 (K + 1) (nI p) a ν = (if ((4 : Int32)) ≤ a then sX9_run_20 31 (nI p) ((0 : Int32)) ν else ((sX9_begins a ν).bind (fun z => sX9_run_12 (sX9_run_2 K) (nI p) a z.2))) := fun _ _ _ => rfl
  have ms : ∀ K c (ν : TS), c < 4 → sX9_run_2 (K + 1) (nI p) (nI c) ν = sX9_run_2 K (nI p) (nI (c + 1)) (mBeg c ν) := fun K c ν hc => by
    rw [mdef, if_neg (show ¬ (4 : Int32) ≤ nI c from nI_ge (b := 4) hc (by decide)), m_begins ν hc, Option.bind_some]
    unfold sX9_run_12
    rw [nI_1]
  have hM : sX9_run (nI p) μ = sX9_run_2 5 (nI p) (nI 0) μ := rfl
  rw [hM, ms 4 0 _ (by decide), ms 3 1 _ (by decide), ms 2 2 _ (by decide), ms 1 3 _ (by decide), mdef, if_pos (show (4 : Int32) ≤ nI (3 + 1) by decide)] at hv
  have h17 : ∀ c, c < 4 → μ 17 c = 0 := fun c hc => by
    by_cases h3 : c = 3
    · rw [h3]
      exact h.2.2.2.1
    · exact h.2.2.2.2.1.2.2.1 c (by omega)
  obtain ⟨a0', b0, c0, d0⟩ := beg_0 (μ := μ) (c := 0) (by decide) (h17 0 (by decide))
  obtain ⟨a1, b1, c1, d1⟩ := beg_0 (μ := mBeg 0 μ) (c := 1) (by decide) (h17 1 (by decide))
  obtain ⟨a2, b2, c2, d2⟩ := beg_0 (μ := mBeg 1 (mBeg 0 μ)) (c := 2) (by decide) (h17 2 (by decide))
  obtain ⟨a3, b3, c3, d3⟩ := beg_0 (μ := mBeg 2 (mBeg 1 (mBeg 0 μ))) (c := 3) (by decide) (h17 3 (by decide))
  have z9 : ∀ c, c < 4 → mBeg 3 (mBeg 2 (mBeg 1 (mBeg 0 μ))) 9 c = 0 := fun c hc => by
    rcases (show c = 0 ∨ c = 1 ∨ c = 2 ∨ c = 3 by omega) with rfl | rfl | rfl | rfl
    · rw [c3 _ (by decide), c2 _ (by decide), c1 _ (by decide), a0']
    · rw [c3 _ (by decide), c2 _ (by decide), a1]
    · rw [c3 _ (by decide), a2]
    · exact a3
  have z8 : ∀ c i, c < 4 → i < 4 → mBeg 3 (mBeg 2 (mBeg 1 (mBeg 0 μ))) 8 (4 * c + i) = 0 := fun c i hc hi => by
    rcases (show c = 0 ∨ c = 1 ∨ c = 2 ∨ c = 3 by omega) with rfl | rfl | rfl | rfl
    · rw [d3 _ (by omega), d2 _ (by omega), d1 _ (by omega), b0 i hi]
    · rw [d3 _ (by omega), d2 _ (by omega), b1 i hi]
    · rw [d3 _ (by omega), b2 i hi]
    · exact b3 i hi
  have hFB : FB (mBeg 3 (mBeg 2 (mBeg 1 (mBeg 0 μ)))) := by
    refine ⟨fq_fr h (iB_beg (iB_beg (iB_beg (iB_beg h.1 0) 1) 2) 3) (fun k hk => ?_), fun c hc _ => ⟨?_, fun i hi => ?_⟩⟩
    · rcases hk with rfl | rfl | rfl | rfl | rfl | rfl | rfl | rfl | rfl <;> rfl
    · rw [z9 c (by omega), z9 3 (by decide)]
    · rw [z8 c i (by omega) hi, z8 3 i (by decide) hi]
  obtain ⟨v', e1, e2⟩ := run_F hp 30 0 _ rfl hFB
  have hvv : v' = v := congrArg Prod.snd (Option.some.inj (e1.symm.trans hv))
  rw [← hvv]
  exact e2
