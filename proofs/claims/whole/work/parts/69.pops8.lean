/-! ===== the calls: load, save ===== -/
theorem t_restore {p c i : Nat} (hp : p < 3) (hc : c < 4) (hi : i < 2) (f : Nat → Int32) : ∀ d w (σ : TS), w + d = 6 → σ (51 + 5 * p) 2 = nI i → (∀ w, w < 6 → σ (53 + 5 * p + i) w = f w) → sX2_restore_11 (d + 1) p c (nI (6 * p)) (nI w) σ = some (0, cpT (17 + 6 * c) (18 + 6 * c) (6 * p) f d w σ) := by
  have hd : ∀ K (a : Int32) (σ : TS), sX2_restore_11 (K + 1) p c (nI (6 * p)) a σ = (if ((6 : Int32)) ≤ a then some (0, σ) else (if vin (σ (51+5*p) 2) 2 = true then (if vin a 6 = true then ((sX4_put c (nI (6 * p) + a) (σ (53+5*p+((σ (51+5*p) 2).toNatClampNeg)) (a.toNatClampNeg)) σ).bind (fun z => sX2_restore_35 (sX2_restore_11 K) p c (nI (6 * p)) a z.2)) else none) else none)) := fun _ _ _ => rfl
  intro d
  induction d with
  | zero =>
    intro w σ hw h51 hf
    rw [show w = 6 by omega, hd, if_pos (show (6 : Int32) ≤ nI 6 by decide)]
    rfl
  | succ d ih =>
    intro w σ hw h51 hf
    have hw6 : w < 6 := by omega
    rw [hd, if_neg (show ¬ (6 : Int32) ≤ nI w from nI_ge (b := 6) hw6 (by decide)), h51, if_pos (vin_nI hi (by decide)), if_pos (vin_nI hw6 (by decide)), nI_clamp (show w < 2 ^ 31 by omega), nI_clamp (show i < 2 ^ 31 by omega), hf w hw6, nI_add]
    unfold sX4_put sX4_put_0
    rw [if_pos (vin_nI (show 6 * p + w < 18 by omega) (by decide)), nI_clamp (show 6 * p + w < 2 ^ 31 by omega), Option.bind_some]
    unfold sX2_restore_35
    rw [nI_1, ih (w + 1) (st2 (st2 σ (17 + 6 * c) (6 * p + w) (f w)) (18 + 6 * c) (6 * p + w) 0) (by omega) (by rw [st2_ne _ _ _ (by omega), st2_ne _ _ _ (by omega)]; exact h51) (fun w' hw' => by rw [st2_ne _ _ _ (by omega), st2_ne _ _ _ (by omega)]; exact hf w' hw')]
    rfl
theorem t_rest {p c i : Nat} (hp : p < 3) (hc : c < 4) (hi : i < 2) (f : Nat → Int32) (σ : TS) (h51 : σ (51 + 5 * p) 2 = nI i) (hf : ∀ w, w < 6 → σ (53 + 5 * p + i) w = f w) : sX2_restore p c (nI (6 * p)) σ = some (0, cpT (17 + 6 * c) (18 + 6 * c) (6 * p) f 6 0 σ) := by
  have h0 : sX2_restore p c (nI (6 * p)) σ = (if (σ (51+5*p) 2) = ((-1 : Int32)) then some (0, σ) else sX2_restore_11 7 p c (nI (6 * p)) (nI 0) σ) := rfl
  rw [h0, if_neg (by rw [h51]; exact nI_ne_m1 (by omega)), t_restore hp hc hi f 6 0 σ rfl h51 hf]
/-- the reference's copying for one computer -/
theorem m_l67 {p c F : Nat} (hp : p < 3) (hc : c < 4) (K59 : Int32 → Int32 → Int32 → TS → Option (Int32 × TS)) (f : Nat → Int32) (hF : F + 6 ≤ 36) : ∀ d w (ν : TS), w + d = 6 → ν 10 c = 0 → (∀ w, w < 6 → ν 30 (F + w) = f w) → sX9_load_67 K59 (d + 1) (nI p) (nI F) (nI c) (nI w) ν = K59 (nI p) (nI F) (nI (c + 1)) (cpM (18 * c + 6 * p) f d w ν) := by
  have hd : ∀ K (a : Int32) (ν : TS), sX9_load_67 K59 (K + 1) (nI p) (nI F) (nI c) a ν = (if ((6 : Int32)) ≤ a then sX9_load_133 K59 (nI p) (nI F) (nI c) ν else (if vin (nI c) 4 = true then (if (ν 10 ((nI c).toNatClampNeg)) = 0 then (if vin (nI F + a) 36 = true then (if vin (((nI c * ((18 : Int32))) + (nI p * ((6 : Int32)))) + a) 72 = true then sX9_load_67 K59 K (nI p) (nI F) (nI c) (a + (1 : Int32)) (st2 (st2 ν 6 ((((nI c * ((18 : Int32))) + (nI p * ((6 : Int32)))) + a).toNatClampNeg) (ν 30 ((nI F + a).toNatClampNeg))) 7 ((((nI c * ((18 : Int32))) + (nI p * ((6 : Int32)))) + a).toNatClampNeg) ((0 : Int32))) else none) else none) else sX9_load_133 K59 (nI p) (nI F) (nI c) ν) else none)) := fun _ _ _ => rfl
  intro d
  induction d with
  | zero =>
    intro w ν hw h10 hf
    rw [show w = 6 by omega, hd, if_pos (show (6 : Int32) ≤ nI 6 by decide)]
    unfold sX9_load_133
    rw [nI_1]
    rfl
  | succ d ih =>
    intro w ν hw h10 hf
    have hw6 : w < 6 := by omega
    rw [hd, if_neg (show ¬ (6 : Int32) ≤ nI w from nI_ge (b := 6) hw6 (by decide)), if_pos (vin_nI hc (by decide)), nI_clamp (show c < 2 ^ 31 by omega), if_pos h10, nI_m18, nI_m6, nI_add, nI_add, nI_add, if_pos (vin_nI (show F + w < 36 by omega) (by decide)), if_pos (vin_nI (show 18 * c + 6 * p + w < 72 by omega) (by decide)), nI_clamp (show F + w < 2 ^ 31 by omega), nI_clamp (show 18 * c + 6 * p + w < 2 ^ 31 by omega), hf w hw6, nI_1, ih (w + 1) (st2 (st2 ν 6 (18 * c + 6 * p + w) (f w)) 7 (18 * c + 6 * p + w) 0) (by omega) h10 hf]
    rfl
theorem m_l67o {p c F : Nat} (hc : c < 4) (K59 : Int32 → Int32 → Int32 → TS → Option (Int32 × TS)) (ν : TS) (h10 : ¬ ν 10 c = 0) (K : Nat) : sX9_load_67 K59 (K + 1) (nI p) (nI F) (nI c) (nI 0) ν = K59 (nI p) (nI F) (nI (c + 1)) ν := by
  have hd : sX9_load_67 K59 (K + 1) (nI p) (nI F) (nI c) (nI 0) ν = (if ((6 : Int32)) ≤ nI 0 then sX9_load_133 K59 (nI p) (nI F) (nI c) ν else (if vin (nI c) 4 = true then (if (ν 10 ((nI c).toNatClampNeg)) = 0 then (if vin (nI F + nI 0) 36 = true then (if vin (((nI c * ((18 : Int32))) + (nI p * ((6 : Int32)))) + nI 0) 72 = true then sX9_load_67 K59 K (nI p) (nI F) (nI c) (nI 0 + (1 : Int32)) (st2 (st2 ν 6 ((((nI c * ((18 : Int32))) + (nI p * ((6 : Int32)))) + nI 0).toNatClampNeg) (ν 30 ((nI F + nI 0).toNatClampNeg))) 7 ((((nI c * ((18 : Int32))) + (nI p * ((6 : Int32)))) + nI 0).toNatClampNeg) ((0 : Int32))) else none) else none) else sX9_load_133 K59 (nI p) (nI F) (nI c) ν) else none)) := rfl
  rw [hd, if_neg (show ¬ (6 : Int32) ≤ nI 0 by decide), if_pos (vin_nI hc (by decide)), nI_clamp (show c < 2 ^ 31 by omega), if_neg h10]
  unfold sX9_load_133
  rw [nI_1]
/-- a row laid into computer c: the class, the reference -/
def lcT (c p : Nat) (f : Nat → Int32) (σ : TS) : TS := cpT (17 + 6 * c) (18 + 6 * c) (6 * p) f 6 0 σ
def lcM (c p : Nat) (f : Nat → Int32) (μ : TS) : TS := cpM (18 * c + 6 * p) f 6 0 μ
theorem rE_lc {c p : Nat} (hc : c < 4) (hp : p < 3) (f : Nat → Int32) {σ μ : TS} (h : RelE σ μ) : RelE (lcT c p f σ) (lcM c p f μ) :=
  rE_cp (n := 6) (fun w hw => by rw [Nat.add_assoc]; exact tm_wr c hc _ (by omega)) (fun w hw => by rw [Nat.add_assoc]; exact tm_fl c hc _ (by omega)) 6 0 σ μ rfl h
/-- what laying a row keeps -/
theorem rel_lc {n : Nat} {σ μ : TS} (h : Rel n σ μ) {c p : Nat} (hc : c < 4) (hp : p < 3) (f : Nat → Int32) (hf : ∀ w, -32768 ≤ (f w).toInt ∧ (f w).toInt ≤ 32767) (hF : InvF (lcT c p f σ) (lcM c p f μ)) : Rel n (lcT c p f σ) (lcM c p f μ) := by
  obtain ⟨h1, h2, ⟨m1, m2, m3, m4, m5, m6, m7, m8⟩, h4, h5, h6⟩ := h
  have ek : ∀ k, k ≠ 6 → k ≠ 7 → lcM c p f μ k = μ k := fun k a b => cpM_ne _ _ a b _ _ _
  have eT : ∀ k, k ≠ 17 + 6 * c → k ≠ 18 + 6 * c → lcT c p f σ k = σ k := fun k a b => cpT_ne _ _ _ _ a b _ _ _
  refine ⟨rE_lc hc hp f h1, iB_cp hf 6 0 μ h2, ?_, it_same h4 (fun k j hk => by unfold tieT at hk; rw [eT k (by omega) (by omega)]) (ek 0 (by decide) (by decide)) (ek 10 (by decide) (by decide)) (ek 11 (by decide) (by decide)) (ek 25 (by decide) (by decide)) (ek 30 (by decide) (by decide)) (ek 32 (by decide) (by decide)), hF, ?_⟩
  · unfold InvM
    rw [ek 0 (by decide) (by decide), ek 1 (by decide) (by decide), ek 3 (by decide) (by decide), ek 10 (by decide) (by decide), ek 11 (by decide) (by decide), ek 12 (by decide) (by decide), ek 13 (by decide) (by decide), ek 17 (by decide) (by decide)]
    refine ⟨m1, m2, m3, m4, m5, ⟨m6.1, m6.2.1, fun i hi => ?_⟩, m7, m8⟩
    unfold lcM
    rw [cpM_7]
    split
    · rfl
    · exact m6.2.2 i hi
  · unfold InvL
    rw [ek 0 (by decide) (by decide), ek 10 (by decide) (by decide), ek 37 (by decide) (by decide), ek 38 (by decide) (by decide)]
    exact h6
/-- InvF while the row is laid into one computer after the other: those below k have it -/
def FLo (k p : Nat) (f : Nat → Int32) (σ μ : TS) : Prop := σ 0 14 = 0 → σ 0 15 = 0 → (∀ i, i < 4 → μ 22 i = μ 23 i) ∧ (∀ i, μ 7 i = 0) ∧ (∀ c, c < 3 → μ 17 c = 0) ∧ (∀ c, c < 3 → μ 10 c = 0 → μ 12 c = 0 ∧ ∀ i, i < 18 → μ 6 (18 * c + i) = if c < k ∧ 6 * p ≤ i ∧ i < 6 * p + 6 then f (i - 6 * p) else μ 6 (54 + i))
/-- all but the last tie -/
def RLo (n k p : Nat) (f : Nat → Int32) (σ μ : TS) : Prop := RelE σ μ ∧ InvB μ ∧ InvM n μ ∧ InvT σ μ ∧ FLo k p f σ μ ∧ InvL μ
theorem rl_step {n k p : Nat} {f : Nat → Int32} {σ μ : TS} (h : RLo n k p f σ μ) (hk : k < 3) (hp : p < 3) (hf : ∀ w, -32768 ≤ (f w).toInt ∧ (f w).toInt ≤ 32767) : (μ 10 k = 0 → RLo n (k + 1) p f (lcT k p f σ) (lcM k p f μ)) ∧ (¬ μ 10 k = 0 → RLo n (k + 1) p f σ μ) := by
  obtain ⟨h1, h2, ⟨m1, m2, m3, m4, m5, m6, m7, m8⟩, h4, h5, h6⟩ := h
  constructor
  · intro h10
    have ek : ∀ j, j ≠ 6 → j ≠ 7 → lcM k p f μ j = μ j := fun j a b => cpM_ne _ _ a b _ _ _
    have eT : ∀ j, j ≠ 17 + 6 * k → j ≠ 18 + 6 * k → lcT k p f σ j = σ j := fun j a b => cpT_ne _ _ _ _ a b _ _ _
    refine ⟨rE_lc (by omega) hp f h1, iB_cp hf 6 0 μ h2, ?_, it_same h4 (fun j i hj => by unfold tieT at hj; rw [eT j (by omega) (by omega)]) (ek 0 (by decide) (by decide)) (ek 10 (by decide) (by decide)) (ek 11 (by decide) (by decide)) (ek 25 (by decide) (by decide)) (ek 30 (by decide) (by decide)) (ek 32 (by decide) (by decide)), fun a b => ?_, ?_⟩
    · unfold InvM
      rw [ek 0 (by decide) (by decide), ek 1 (by decide) (by decide), ek 3 (by decide) (by decide), ek 10 (by decide) (by decide), ek 11 (by decide) (by decide), ek 12 (by decide) (by decide), ek 13 (by decide) (by decide), ek 17 (by decide) (by decide)]
      refine ⟨m1, m2, m3, m4, m5, ⟨m6.1, m6.2.1, fun i hi => ?_⟩, m7, m8⟩
      unfold lcM
      rw [cpM_7]
      split
      · rfl
      · exact m6.2.2 i hi
    · rw [eT 0 (by omega) (by omega)] at a b
      obtain ⟨f1, f2, f3, f4⟩ := h5 a b
      rw [ek 22 (by decide) (by decide), ek 23 (by decide) (by decide), ek 17 (by decide) (by decide), ek 10 (by decide) (by decide), ek 12 (by decide) (by decide)]
      refine ⟨f1, fun i => ?_, f3, fun d hd hd10 => ⟨(f4 d hd hd10).1, fun i hi => ?_⟩⟩
      · unfold lcM
        rw [cpM_7]
        split
        · rfl
        · exact f2 i
      · have hpl : lcM k p f μ 6 (54 + i) = μ 6 (54 + i) := by
          unfold lcM
          rw [cpM_6, if_neg (by omega)]
        rw [hpl]
        unfold lcM
        rw [cpM_6]
        have h4 := (f4 d hd hd10).2 i hi
        by_cases hdk : d = k
        · subst hdk
          by_cases hr : 6 * p ≤ i ∧ i < 6 * p + 6
          · rw [if_pos (by omega), if_pos (by omega)]
            congr 1
            omega
          · rw [if_neg (by omega), if_neg (by omega), h4, if_neg (by omega)]
        · rw [if_neg (by omega), h4]
          by_cases hr : d < k ∧ 6 * p ≤ i ∧ i < 6 * p + 6
          · rw [if_pos hr, if_pos (by omega)]
          · rw [if_neg hr, if_neg (by omega)]
    · unfold InvL
      rw [ek 0 (by decide) (by decide), ek 10 (by decide) (by decide), ek 37 (by decide) (by decide), ek 38 (by decide) (by decide)]
      exact h6
  · intro h10
    refine ⟨h1, h2, ⟨m1, m2, m3, m4, m5, m6, m7, m8⟩, h4, fun a b => ?_, h6⟩
    obtain ⟨f1, f2, f3, f4⟩ := h5 a b
    refine ⟨f1, f2, f3, fun d hd hd10 => ⟨(f4 d hd hd10).1, fun i hi => ?_⟩⟩
    have hdk : d ≠ k := fun h => h10 (by rw [← h]; exact hd10)
    rw [(f4 d hd hd10).2 i hi]
    by_cases hr : d < k ∧ 6 * p ≤ i ∧ i < 6 * p + 6
    · rw [if_pos hr, if_pos (by omega)]
    · rw [if_neg hr, if_neg (by omega)]
theorem rl_fin {n p : Nat} {f : Nat → Int32} {σ μ : TS} (h : RLo n 3 p f σ μ) (hp : p < 3) (hf : ∀ w, -32768 ≤ (f w).toInt ∧ (f w).toInt ≤ 32767) : Rel n (lcT 3 p f σ) (lcM 3 p f μ) := by
  obtain ⟨h1, h2, ⟨m1, m2, m3, m4, m5, m6, m7, m8⟩, h4, h5, h6⟩ := h
  have ek : ∀ j, j ≠ 6 → j ≠ 7 → lcM 3 p f μ j = μ j := fun j a b => cpM_ne _ _ a b _ _ _
  have eT : ∀ j, j ≠ 17 + 6 * 3 → j ≠ 18 + 6 * 3 → lcT 3 p f σ j = σ j := fun j a b => cpT_ne _ _ _ _ a b _ _ _
  refine ⟨rE_lc (by omega) hp f h1, iB_cp hf 6 0 μ h2, ?_, it_same h4 (fun j i hj => by unfold tieT at hj; rw [eT j (by omega) (by omega)]) (ek 0 (by decide) (by decide)) (ek 10 (by decide) (by decide)) (ek 11 (by decide) (by decide)) (ek 25 (by decide) (by decide)) (ek 30 (by decide) (by decide)) (ek 32 (by decide) (by decide)), fun a b => ?_, ?_⟩
  · unfold InvM
    rw [ek 0 (by decide) (by decide), ek 1 (by decide) (by decide), ek 3 (by decide) (by decide), ek 10 (by decide) (by decide), ek 11 (by decide) (by decide), ek 12 (by decide) (by decide), ek 13 (by decide) (by decide), ek 17 (by decide) (by decide)]
    refine ⟨m1, m2, m3, m4, m5, ⟨m6.1, m6.2.1, fun i hi => ?_⟩, m7, m8⟩
    unfold lcM
    rw [cpM_7]
    split
    · rfl
    · exact m6.2.2 i hi
  · rw [eT 0 (by omega) (by omega)] at a b
    obtain ⟨f1, f2, f3, f4⟩ := h5 a b
    rw [ek 22 (by decide) (by decide), ek 23 (by decide) (by decide), ek 17 (by decide) (by decide), ek 10 (by decide) (by decide), ek 12 (by decide) (by decide)]
    refine ⟨f1, fun i => ?_, f3, fun d hd hd10 => ⟨(f4 d hd hd10).1, fun i hi => ?_⟩⟩
    · unfold lcM
      rw [cpM_7]
      split
      · rfl
      · exact f2 i
    · have h4 := (f4 d hd hd10).2 i hi
      unfold lcM
      rw [cpM_6, cpM_6, if_neg (by omega), h4]
      by_cases hr : 6 * p ≤ i ∧ i < 6 * p + 6
      · rw [if_pos (by omega), if_pos (by omega)]
        congr 1
        omega
      · rw [if_neg (by omega), if_neg (by omega)]
  · unfold InvL
    rw [ek 0 (by decide) (by decide), ek 10 (by decide) (by decide), ek 37 (by decide) (by decide), ek 38 (by decide) (by decide)]
    exact h6
theorem t_ld_def (K p : Nat) (x a : Int32) (σ : TS) : sX8_load_32 (K + 1) p x a σ = (if ((3 : Int32)) ≤ a then ((sX2_restore p 3 (((6 : Int32)) * x) σ).bind (fun z => sX8_load_87 p z.2)) else (if vin a 3 = true then (if (σ (15+6*(a.toNatClampNeg)) 6) = 0 then sX8_load_66 (sX8_load_32 K) p x a σ else ((sX2_restore p ((a.toNatClampNeg)) (((6 : Int32)) * x) σ).bind (fun z => sX8_load_66 (sX8_load_32 K) p x a z.2))) else none)) := rfl
theorem m_ld_def (K : Nat) (x y a : Int32) (μ : TS) : sX9_load_59 (K + 1) x y a μ = (if ((4 : Int32)) ≤ a then (if vin y 36 = true then some (μ 30 (y.toNatClampNeg), μ) else none) else sX9_load_67 (sX9_load_59 K) 7 x y a ((0 : Int32)) μ) := rfl
theorem load_c {n p i k F : Nat} {f : Nat → Int32} {σ μ : TS} (h : RLo n k p f σ μ) (hk : k < 3) (hp : p < 3) (hi : i < 2) (hF : F = 18 * i + 6 * p) (h51 : σ (51 + 5 * p) 2 = nI i) (hfT : ∀ w, w < 6 → σ (53 + 5 * p + i) w = f w) (hfM : ∀ w, w < 6 → μ 30 (F + w) = f w) (hf : ∀ w, -32768 ≤ (f w).toInt ∧ (f w).toInt ≤ 32767) (K K2 : Nat) :
    ∃ u v, sX8_load_32 (K + 1) p (nI p) (nI k) σ = sX8_load_32 K p (nI p) (nI (k + 1)) u ∧ sX9_load_59 (K2 + 1) (nI p) (nI F) (nI k) μ = sX9_load_59 K2 (nI p) (nI F) (nI (k + 1)) v ∧ RLo n (k + 1) p f u v ∧ u (51 + 5 * p) 2 = nI i ∧ (∀ w, w < 6 → u (53 + 5 * p + i) w = f w) ∧ (∀ w, w < 6 → v 30 (F + w) = f w) ∧ v 0 = μ 0 := by
  rw [t_ld_def, m_ld_def, if_neg (show ¬ (3 : Int32) ≤ nI k from nI_ge (b := 3) hk (by decide)), if_neg (show ¬ (4 : Int32) ≤ nI k from nI_ge (b := 4) (by omega) (by decide)), if_pos (vin_nI hk (by decide)), nI_clamp (show k < 2 ^ 31 by omega)]
  obtain ⟨s1, s2⟩ := rl_step h hk hp hf
  unfold sX8_load_66
  rcases onR h.1 h.2.1 (show k < 4 by omega) with ⟨t6, m10⟩ | ⟨t6, m10⟩
  · rw [if_pos t6, nI_1, show (0 : Int32) = nI 0 from rfl, m_l67o (show k < 4 by omega) _ μ m10]
    exact ⟨σ, μ, rfl, rfl, s2 m10, h51, hfT, hfM, rfl⟩
  · rw [if_neg (by rw [t6]; decide), m6_nI, t_rest hp (show k < 4 by omega) hi f σ h51 hfT, Option.bind_some, nI_1, show (0 : Int32) = nI 0 from rfl, m_l67 hp (show k < 4 by omega) _ f (by omega) 6 0 μ rfl m10 hfM]
    refine ⟨lcT k p f σ, lcM k p f μ, rfl, rfl, s1 m10, ?_, fun w hw => ?_, fun w hw => ?_, cpM_ne _ _ (by decide) (by decide) _ _ _⟩
    · unfold lcT
      rw [cpT_ne _ _ _ _ (by omega) (by omega)]
      exact h51
    · unfold lcT
      rw [cpT_ne _ _ _ _ (by omega) (by omega)]
      exact hfT w hw
    · unfold lcM
      rw [cpM_ne _ _ (by decide) (by decide)]
      exact hfM w hw
theorem q_load : op_load Rel := by
  intro j σ μ x1 hj hR
  rcases ix3 x1 with ⟨hT, hM⟩ | ⟨p, hp, rfl, hT, hM⟩
  · refine ⟨.inr 1, σ, 0, st2 μ 0 0 1, ?_, ?_, ⟨1, rfl, rfl, by decide⟩, rel_thr hR 1⟩
    · simp only [sX8_load, sX8_load_0, hT, Option.bind_some, o_x_r]
    · simp only [sX9_load, sX9_load_0, sX9_load_5, sX9_load_8, hM, isOut0, e10, Option.bind_some, if_false]
  have hT0 : sX8_load (nI p) σ = (if (σ (51+5*p) 2) = ((-1 : Int32)) then some (Sum.inr 5, σ) else sX8_load_32 4 p (nI p) ((0 : Int32)) σ) := by
    simp only [sX8_load, sX8_load_0, sX8_load_5, hT, Option.bind_some, o_x_l, vin_nI hp (by decide), nI_clamp (show p < 2 ^ 31 by omega), if_true]
  have hM0 : sX9_load (nI p) μ = (if μ 32 p = 0 then sX9_load_28 (nI p) ((2 : Int32)) (st2 μ 0 0 0) else sX9_load_28 (nI p) ((0 : Int32)) (st2 μ 0 0 0)) := by
    simp only [sX9_load, sX9_load_0, sX9_load_5, sX9_load_8, hM, isOut1, eq_self, Option.bind_some, vin_nI hp (by decide), nI_clamp (show p < 2 ^ 31 by omega), if_true]
    rfl
  rw [hT0, hM0]
  have t51 : σ (51 + 5 * p) 2 = μ 32 p - 1 := rE_get hR.1 (tm_newest p hp)
  obtain ⟨a, ha, he⟩ := b_nI hR.2.1 32 p (n := 2) rfl
  by_cases ha0 : a = 0
  · subst ha0
    rw [t51, he, if_pos (show nI 0 - 1 = -1 from rfl), if_pos (show nI 0 = 0 from rfl)]
    refine ⟨.inr 5, σ, 0, st2 (st2 μ 0 0 0) 0 0 2, rfl, ?_, ⟨2, rfl, rfl, by decide⟩, rel_thr2 hR 0 2⟩
    unfold sX9_load_28
    rw [if_neg (show ¬ (st2 (st2 μ 0 0 0) 0 0 2) 0 0 ≤ 0 by rw [st2_eq]; decide)]
  obtain ⟨i, rfl⟩ : ∃ i, a = i + 1 := ⟨a - 1, by omega⟩
  have hi : i < 2 := by omega
  rw [he, nI_pred] at t51
  rw [t51, he, if_neg (nI_ne_m1 (by omega)), if_neg (nI_ne0 (by omega) (by omega))]
  have hRl := rel_thr2 hR 0 0
  have hmu32 : (st2 (st2 μ 0 0 0) 0 0 0) 32 p = nI (i + 1) := he
  have hM1 : sX9_load_28 (nI p) 0 (st2 μ 0 0 0) = sX9_load_59 5 (nI p) (nI (18 * i + 6 * p)) (nI 0) (st2 (st2 μ 0 0 0) 0 0 0) := by
    unfold sX9_load_28
    rw [if_pos (show (st2 (st2 μ 0 0 0) 0 0 0) 0 0 ≤ 0 by rw [st2_eq]; decide), if_pos (vin_nI hp (by decide)), nI_clamp (show p < 2 ^ 31 by omega), hmu32, nI_pred, nI_m18, nI_m6, nI_add]
    rfl
  have hT1 : sX8_load_32 4 p (nI p) 0 σ = sX8_load_32 4 p (nI p) (nI 0) σ := rfl
  rw [hM1, hT1]
  have hf : ∀ w, -32768 ≤ (μ 30 (18 * i + 6 * p + w)).toInt ∧ (μ 30 (18 * i + 6 * p + w)).toInt ≤ 32767 := fun w => hR.2.1 30 _
  have hfT : ∀ w, w < 6 → σ (53 + 5 * p + i) w = μ 30 (18 * i + 6 * p + w) := fun w hw => hR.2.2.2.1.2.2.2 p hp i hi he w hw
  have hRL : RLo (j + 1) 0 p (fun w => μ 30 (18 * i + 6 * p + w)) σ (st2 (st2 μ 0 0 0) 0 0 0) := by
    obtain ⟨h1, h2, h3, h4, h5, h6⟩ := hRl
    refine ⟨h1, h2, h3, h4, fun a b => ?_, h6⟩
    obtain ⟨f1, f2, f3, f4⟩ := h5 a b
    refine ⟨f1, f2, f3, fun d hd hd10 => ⟨(f4 d hd hd10).1, fun i hi => ?_⟩⟩
    rw [if_neg (by omega)]
    exact (f4 d hd hd10).2 i hi
  obtain ⟨u0, v0, a0', b0, r0, s0, p0, m0', z0⟩ := load_c hRL (show 0 < 3 by decide) hp hi rfl t51 hfT (fun _ _ => rfl) hf 3 4
  obtain ⟨u1, v1, a1, b1, r1, s1, p1, m1', z1⟩ := load_c r0 (show 1 < 3 by decide) hp hi rfl s0 p0 m0' hf 2 3
  obtain ⟨u2, v2, a2, b2, r2, s2, p2, m2', z2⟩ := load_c r1 (show 2 < 3 by decide) hp hi rfl s1 p1 m1' hf 1 2
  have hrel := rl_fin r2 hp hf
  have hT3 : sX8_load_32 1 p (nI p) (nI 3) u2 = some (.inl (μ 30 (18 * i + 6 * p + 0)), lcT 3 p (fun w => μ 30 (18 * i + 6 * p + w)) u2) := by
    have e51 : lcT 3 p (fun w => μ 30 (18 * i + 6 * p + w)) u2 (51 + 5 * p) 2 = nI i := by
      unfold lcT
      rw [cpT_ne _ _ _ _ (by omega) (by omega)]
      exact s2
    have e53 : lcT 3 p (fun w => μ 30 (18 * i + 6 * p + w)) u2 (53 + 5 * p + i) 0 = μ 30 (18 * i + 6 * p + 0) := by
      unfold lcT
      rw [cpT_ne _ _ _ _ (by omega) (by omega)]
      exact p2 0 (by decide)
    have e0 : sX2_restore p 3 (nI (6 * p)) u2 = some (0, lcT 3 p (fun w => μ 30 (18 * i + 6 * p + w)) u2) := t_rest hp (show 3 < 4 by decide) hi _ u2 s2 p2
    rw [t_ld_def, if_pos (show (3 : Int32) ≤ nI 3 by decide), m6_nI, e0, Option.bind_some]
    have key : ∀ (ω : TS) (x : Int32), ω (51 + 5 * p) 2 = nI i → ω (53 + 5 * p + i) 0 = x → sX8_load_87 p ω = some (.inl x, ω) := by
      intro ω x a1 a2
      unfold sX8_load_87 sX2_firstWord sX2_firstWord_0 sX2_firstWord_23
      rw [a1, if_neg (nI_ne_m1 (by omega)), if_pos (vin_nI hi (by decide)), nI_clamp (show i < 2 ^ 31 by omega), a2, Option.bind_some]
      rfl
    exact key _ _ e51 e53
  have hM3 : sX9_load_59 2 (nI p) (nI (18 * i + 6 * p)) (nI 3) v2 = some (μ 30 (18 * i + 6 * p + 0), lcM 3 p (fun w => μ 30 (18 * i + 6 * p + w)) v2) := by
    have h103 : v2 10 3 = 0 := r2.2.2.1.2.2.2.2.2.1.1
    have e30 : lcM 3 p (fun w => μ 30 (18 * i + 6 * p + w)) v2 30 (18 * i + 6 * p) = μ 30 (18 * i + 6 * p + 0) := by
      unfold lcM
      rw [cpM_ne _ _ (by decide) (by decide)]
      exact m2' 0 (by decide)
    have e1 := m_l67 hp (show 3 < 4 by decide) (sX9_load_59 1) (fun w => μ 30 (18 * i + 6 * p + w)) (F := 18 * i + 6 * p) (by omega) 6 0 v2 rfl h103 m2'
    have e0 : sX9_load_59 2 (nI p) (nI (18 * i + 6 * p)) (nI 3) v2 = sX9_load_67 (sX9_load_59 1) 7 (nI p) (nI (18 * i + 6 * p)) (nI 3) (nI 0) v2 := if_neg (show ¬ (4 : Int32) ≤ nI 3 by decide)
    rw [e0, e1, m_ld_def, if_pos (show (4 : Int32) ≤ nI (3 + 1) by decide), if_pos (vin_nI (show 18 * i + 6 * p < 36 by omega) (by decide)), nI_clamp (show 18 * i + 6 * p < 2 ^ 31 by omega)]
    show some (lcM 3 p (fun w => μ 30 (18 * i + 6 * p + w)) v2 30 (18 * i + 6 * p), _) = _
    rw [e30]
    rfl
  refine ⟨.inl (μ 30 (18 * i + 6 * p + 0)), _, μ 30 (18 * i + 6 * p + 0), _, ?_, ?_, ⟨0, rfl, ?_, fun _ => rfl⟩, hrel⟩
  · rw [a0', a1, a2, hT3]
  · rw [b0, b1, b2, hM3]
  · have e0 : lcM 3 p (fun w => μ 30 (18 * i + 6 * p + w)) v2 0 = v2 0 := cpM_ne _ _ (by decide) (by decide) _ _ _
    rw [e0, z2, z1, z0]
    rfl
/-! save -/
theorem onT_53 : ∀ p, p < 3 → ∀ a, a < 2 → ∀ w, w < 6 → onT (53 + 5 * p + a) w = false := by decide +kernel
theorem onM_30 : ∀ i, i < 36 → onM 30 i = false := by decide +kernel
/-- the class's copy, the reference's copy -/
def kpT (p a : Nat) (f : Nat → Int32) : Nat → Nat → TS → TS
  | 0, _, σ => σ
  | d + 1, w, σ => kpT p a f d (w + 1) (st2 σ (53 + 5 * p + a) w (f w))
def kpM (p a : Nat) (f : Nat → Int32) : Nat → Nat → TS → TS
  | 0, _, μ => μ
  | d + 1, w, μ => kpM p a f d (w + 1) (st2 μ 30 (18 * a + 6 * p + w) (f w))
theorem kpT_ne (p a : Nat) (f : Nat → Int32) {k : Nat} (h : k ≠ 53 + 5 * p + a) : ∀ d w (σ : TS), kpT p a f d w σ k = σ k
  | 0, _, _ => rfl
  | d + 1, w, σ => by
    show kpT p a f d (w + 1) (st2 σ (53 + 5 * p + a) w (f w)) k = σ k
    rw [kpT_ne p a f h d, st2_ne _ _ _ h]
theorem kpM_ne (p a : Nat) (f : Nat → Int32) {k : Nat} (h : k ≠ 30) : ∀ d w (μ : TS), kpM p a f d w μ k = μ k
  | 0, _, _ => rfl
  | d + 1, w, μ => by
    show kpM p a f d (w + 1) (st2 μ 30 (18 * a + 6 * p + w) (f w)) k = μ k
    rw [kpM_ne p a f h d, st2_ne _ _ _ h]
theorem kpT_at (p a : Nat) (f : Nat → Int32) (j : Nat) : ∀ d w (σ : TS), kpT p a f d w σ (53 + 5 * p + a) j = if w ≤ j ∧ j < w + d then f j else σ (53 + 5 * p + a) j
  | 0, w, σ => by
    rw [if_neg (by omega)]
    rfl
  | d + 1, w, σ => by
    show kpT p a f d (w + 1) (st2 σ (53 + 5 * p + a) w (f w)) (53 + 5 * p + a) j = _
    rw [kpT_at p a f j d]
    by_cases h : j = w
    · rw [if_neg (by omega), if_pos (by omega), h, st2_eq]
    · rw [st2_nj _ _ h]
      by_cases h2 : w + 1 ≤ j ∧ j < w + 1 + d
      · rw [if_pos h2, if_pos (by omega)]
      · rw [if_neg h2, if_neg (by omega)]
theorem kpM_at (p a : Nat) (f : Nat → Int32) (j : Nat) : ∀ d w (μ : TS), kpM p a f d w μ 30 j = if 18 * a + 6 * p + w ≤ j ∧ j < 18 * a + 6 * p + w + d then f (j - (18 * a + 6 * p)) else μ 30 j
  | 0, w, μ => by
    rw [if_neg (by omega)]
    rfl
  | d + 1, w, μ => by
    show kpM p a f d (w + 1) (st2 μ 30 (18 * a + 6 * p + w) (f w)) 30 j = _
    rw [kpM_at p a f j d]
    by_cases h : j = 18 * a + 6 * p + w
    · rw [if_neg (by omega), if_pos (by omega), h, st2_eq]
      congr 1
      omega
    · rw [st2_nj _ _ h]
      by_cases h2 : 18 * a + 6 * p + (w + 1) ≤ j ∧ j < 18 * a + 6 * p + (w + 1) + d
      · rw [if_pos h2, if_pos (by omega)]
      · rw [if_neg h2, if_neg (by omega)]
theorem rE_kT {p a : Nat} (hp : p < 3) (ha : a < 2) {f : Nat → Int32} : ∀ d w (σ μ : TS), w + d = 6 → RelE σ μ → RelE (kpT p a f d w σ) μ
  | 0, _, _, _, _, h => h
  | d + 1, w, σ, μ, hw, h => rE_kT hp ha d (w + 1) _ _ (by omega) (rE_T h (onT_53 p hp a ha w (by omega)) _)
theorem rE_kM {p a : Nat} (hp : p < 3) (ha : a < 2) {f : Nat → Int32} : ∀ d w (σ μ : TS), w + d = 6 → RelE σ μ → RelE σ (kpM p a f d w μ)
  | 0, _, _, _, _, h => h
  | d + 1, w, σ, μ, hw, h => rE_kM hp ha d (w + 1) _ _ (by omega) (rE_M h (onM_30 _ (by omega)) _)
theorem iB_kM {p a : Nat} {f : Nat → Int32} (hf : ∀ w, -32768 ≤ (f w).toInt ∧ (f w).toInt ≤ 32767) : ∀ d w (μ : TS), InvB μ → InvB (kpM p a f d w μ)
  | 0, _, _, h => h
  | d + 1, w, μ, h => iB_kM hf d (w + 1) _ (iB_up (k := 30) h (hf w))
theorem t_keep8 {p m a : Nat} (hp : p < 3) (ha : a < 2) (f : Nat → Int32) : ∀ d w (σ : TS), w + d = 6 → (∀ w, w < 6 → σ (17 + 6 * m) (6 * p + w) = f w) → m < 3 → sX2_keep_8 (d + 1) p m (nI (6 * p)) (nI a) (nI w) σ = some (0, st2 (st2 (kpT p a f d w σ) (55 + 5 * p) a 1) (51 + 5 * p) 2 (nI a)) := by
  have hd : ∀ K (b : Int32) (σ : TS), sX2_keep_8 (K + 1) p m (nI (6 * p)) (nI a) b σ = (if ((6 : Int32)) ≤ b then (if vin (nI a) 2 = true then some (0, st2 (st2 σ (55+5*p) ((nI a).toNatClampNeg) (vp_nar .boolean ((1 : Int32)))) (51+5*p) 2 (nI a)) else none) else (if vin (nI a) 2 = true then ((sX4_unflipped m (nI (6 * p) + b) σ).bind (fun z => sX2_keep_31 (sX2_keep_8 K) p m p ((nI a).toNatClampNeg) (nI (6 * p)) (nI a) b b z.1 z.2)) else none)) := fun _ _ _ => rfl
  intro d
  induction d with
  | zero =>
    intro w σ hw hf hm
    rw [show w = 6 by omega, hd, if_pos (show (6 : Int32) ≤ nI 6 by decide), if_pos (vin_nI ha (by decide)), nI_clamp (show a < 2 ^ 31 by omega), nar1]
    rfl
  | succ d ih =>
    intro w σ hw hf hm
    have hw6 : w < 6 := by omega
    rw [hd, if_neg (show ¬ (6 : Int32) ≤ nI w from nI_ge (b := 6) hw6 (by decide)), if_pos (vin_nI ha (by decide)), nI_add]
    unfold sX4_unflipped sX4_unflipped_0
    rw [if_pos (vin_nI (show 6 * p + w < 18 by omega) (by decide)), nI_clamp (show 6 * p + w < 2 ^ 31 by omega), hf w hw6, Option.bind_some, nI_clamp (show a < 2 ^ 31 by omega)]
    unfold sX2_keep_31
    rw [if_pos (vin_nI hw6 (by decide)), nI_clamp (show w < 2 ^ 31 by omega), nI_1, ih (w + 1) _ (by omega) (fun w' hw' => by rw [st2_ne _ _ _ (by omega)]; exact hf w' hw') hm]
    rfl
theorem m_save61 {p m a : Nat} (hp : p < 3) (ha : a < 2) (hm : m < 3) (x : Int32) (f : Nat → Int32) : ∀ d w (ν : TS), w + d = 6 → (∀ w, w < 6 → ν 6 (18 * m + 6 * p + w) = f w) → sX9_save_61 (d + 1) (nI p) x (nI m) (nI a) (nI w) ν = sX9_save_128 (nI p) x (nI a) (nI (3 * a + p)) (if x = 0 then 1 else 0) (kpM p a f d w ν) := by
  have hd : ∀ K (b : Int32) (ν : TS), sX9_save_61 (K + 1) (nI p) x (nI m) (nI a) b ν = (if ((6 : Int32)) ≤ b then (if x = 0 then sX9_save_128 (nI p) x (nI a) ((nI a * ((3 : Int32))) + nI p) ((1 : Int32)) ν else sX9_save_128 (nI p) x (nI a) ((nI a * ((3 : Int32))) + nI p) ((0 : Int32)) ν) else (if vin (((nI m * ((18 : Int32))) + (nI p * ((6 : Int32)))) + b) 72 = true then (if vin (((nI a * ((18 : Int32))) + (nI p * ((6 : Int32)))) + b) 36 = true then sX9_save_61 K (nI p) x (nI m) (nI a) (b + (1 : Int32)) (st2 ν 30 ((((nI a * ((18 : Int32))) + (nI p * ((6 : Int32)))) + b).toNatClampNeg) (ν 6 ((((nI m * ((18 : Int32))) + (nI p * ((6 : Int32)))) + b).toNatClampNeg))) else none) else none)) := fun _ _ _ => rfl
  intro d
  induction d with
  | zero =>
    intro w ν hw hf
    rw [show w = 6 by omega, hd, if_pos (show (6 : Int32) ≤ nI 6 by decide), nI_m3, nI_add]
    by_cases hx : x = 0
    · rw [if_pos hx, if_pos hx]
      rfl
    · rw [if_neg hx, if_neg hx]
      rfl
  | succ d ih =>
    intro w ν hw hf
    have hw6 : w < 6 := by omega
    rw [hd, if_neg (show ¬ (6 : Int32) ≤ nI w from nI_ge (b := 6) hw6 (by decide)), nI_m18, nI_m18, nI_m6, nI_add, nI_add, nI_add, nI_add, if_pos (vin_nI (show 18 * m + 6 * p + w < 72 by omega) (by decide)), if_pos (vin_nI (show 18 * a + 6 * p + w < 36 by omega) (by decide)), nI_clamp (show 18 * m + 6 * p + w < 2 ^ 31 by omega), nI_clamp (show 18 * a + 6 * p + w < 2 ^ 31 by omega), hf w hw6, nI_1, ih (w + 1) (st2 ν 30 (18 * a + 6 * p + w) (f w)) (by omega) hf]
    rfl
def gz (x : Int32) : Int32 := if x = 0 then 0 else 1
theorem t_cg {σ : TS} (p : Nat) : sX2_countGood p σ = some (gz (σ (55 + 5 * p) 0) + gz (σ (55 + 5 * p) 1), σ) := by
  unfold sX2_countGood sX2_countGood_0 sX2_countGood_14 sX2_countGood_28 gz
  by_cases h0 : σ (55 + 5 * p) 0 = 0 <;> by_cases h1 : σ (55 + 5 * p) 1 = 0
  · rw [if_pos h0, if_pos h1, if_pos h0, if_pos h1]
  · rw [if_pos h0, if_neg h1, if_pos h0, if_neg h1]
  · rw [if_neg h0, if_pos h1, if_neg h0, if_pos h1]
  · rw [if_neg h0, if_neg h1, if_neg h0, if_neg h1]
theorem m_151 {p : Nat} (hp : p < 3) (x : Int32) (ν : TS) : sX9_save_151 (nI p) (nI p) x ν = some (gz (ν 31 p) + gz (ν 31 (3 + p)), st2 ν 32 p x) := by
  unfold sX9_save_151 sX9_save_166 sX9_save_182 gz
  have e1 : (st2 ν 32 p x) 31 p = ν 31 p := rfl
  have e2 : (st2 ν 32 p x) 31 (3 + p) = ν 31 (3 + p) := rfl
  rw [if_pos (vin_nI hp (by decide)), if_pos (vin_nI (show p < 6 by omega) (by decide)), nI_clamp (show p < 2 ^ 31 by omega), p3_nI, if_pos (vin_nI (show 3 + p < 6 by omega) (by decide)), if_pos (vin_nI (show 3 + p < 6 by omega) (by decide)), nI_clamp (show 3 + p < 2 ^ 31 by omega), e1, e2]
  by_cases h0 : ν 31 p = 0 <;> by_cases h1 : ν 31 (3 + p) = 0
  · rw [if_pos h0, if_pos h1, if_pos h0, if_pos h1]
  · rw [if_pos h0, if_neg h1, if_pos h0, if_neg h1]
  · rw [if_neg h0, if_pos h1, if_neg h0, if_pos h1]
  · rw [if_neg h0, if_neg h1, if_neg h0, if_neg h1]
theorem q_save : op_save Rel := by
  intro j σ μ x1 x2 hj hR
  rcases ix3 x1 with ⟨hT, hM⟩ | ⟨p, hp, rfl, hT, hM⟩
  · refine ⟨.inr 1, σ, 0, st2 μ 0 0 1, ?_, ?_, ⟨1, rfl, rfl, by decide⟩, rel_thr hR 1⟩
    · simp only [sX8_save, sX8_save_0, hT, Option.bind_some, o_x_r]
    · simp only [sX9_save, sX9_save_0, sX9_save_5, sX9_save_8, hM, isOut0, e10, Option.bind_some, if_false]
  have hz := lbv_z x2
  generalize lbv x2 = x at *
  have hT0 : sX8_save (nI p) x σ = sX8_save_9 (nI p) x (lowM μ) σ := by
    simp only [sX8_save, sX8_save_0, sX8_save_5, hT, Option.bind_some, o_x_l, t_low hR.1 hR.2.1]
  have hlow : lowM (st2 μ 0 0 0) = lowM μ := rfl
  have hM0 : sX9_save (nI p) x μ = sX9_save_17 (nI p) x (lowM μ) (st2 μ 0 0 0) := by
    simp only [sX9_save, sX9_save_0, sX9_save_5, sX9_save_8, hM, isOut1, eq_self, Option.bind_some, if_true, m_low, hlow]
  rw [hT0, hM0]
  unfold sX8_save_9 sX8_save_20 sX9_save_17
  rcases low_cases μ with hl | ⟨m, hm, hl, hm10⟩
  · rw [if_pos hl, if_pos hl, rs0, Option.bind_some, o_x_r]
    refine ⟨.inr 4, σ, 0, st2 (st2 μ 0 0 0) 0 0 2, rfl, ?_, ⟨2, rfl, rfl, by decide⟩, rel_thr2 hR 0 2⟩
    unfold sX9_save_29
    rw [if_neg (show ¬ (st2 (st2 μ 0 0 0) 0 0 2) 0 0 ≤ 0 by rw [st2_eq]; decide)]
  rw [hl, if_neg (nI_ne_m1 (by omega)), if_neg (nI_ne_m1 (by omega)), rs1, Option.bind_some, o_x_l]
  obtain ⟨h1, h2, ⟨m1, m2, m3, m4, m5, m6, m7, m8⟩, h4, h5, h6⟩ := rel_thr2 hR 0 0
  -- which copy is written
  obtain ⟨a, ha, hna, hTn, hMn⟩ : ∃ a, a < 2 ∧ μ 32 p ≠ nI (a + 1) ∧ sX2_nextToWrite p σ = some (nI a, σ) ∧ sX9_save_29 (nI p) x (nI m) 0 (st2 μ 0 0 0) = sX9_save_56 (nI p) x (nI m) (nI a) (st2 (st2 μ 0 0 0) 0 0 0) := by
    have t51 : σ (51 + 5 * p) 2 = μ 32 p - 1 := rE_get hR.1 (tm_newest p hp)
    obtain ⟨b, hb, he⟩ := b_nI hR.2.1 32 p (n := 2) rfl
    have hm32 : (st2 (st2 μ 0 0 0) 0 0 0) 32 p = nI b := he
    unfold sX2_nextToWrite sX2_nextToWrite_0 sX2_nextToWrite_12 sX9_save_29
    rw [if_pos (show (st2 (st2 μ 0 0 0) 0 0 0) 0 0 ≤ 0 by rw [st2_eq]; decide), if_pos (vin_nI hp (by decide)), nI_clamp (show p < 2 ^ 31 by omega), hm32, t51, he]
    rcases (show b = 0 ∨ b = 1 ∨ b = 2 by omega) with rfl | rfl | rfl
    · rw [if_neg (show ¬ nI 0 - 1 = 0 by decide), if_neg (show ¬ nI 0 = (1 : Int32) by decide)]
      exact ⟨0, by decide, by decide, rfl, rfl⟩
    · rw [if_pos (show nI 1 - 1 = 0 by decide), if_pos (show nI 1 = (1 : Int32) by decide)]
      exact ⟨1, by decide, by decide, rfl, rfl⟩
    · rw [if_neg (show ¬ nI 2 - 1 = 0 by decide), if_neg (show ¬ nI 2 = (1 : Int32) by decide)]
      exact ⟨0, by decide, by decide, rfl, rfl⟩
  rw [hMn]
  generalize hμ : st2 (st2 μ 0 0 0) 0 0 0 = μ' at *
  have hμ32 : μ' 32 p = μ 32 p := by rw [← hμ]; rfl
  have hμ00 : μ' 0 0 = 0 := by rw [← hμ]; rfl
  have hfM : ∀ w, w < 6 → μ' 6 (18 * m + 6 * p + w) = μ' 6 (18 * m + 6 * p + w) := fun _ _ => rfl
  have hfT : ∀ w, w < 6 → σ (17 + 6 * m) (6 * p + w) = μ' 6 (18 * m + 6 * p + w) := fun w hw => by
    rw [show 18 * m + 6 * p + w = 18 * m + (6 * p + w) by omega]
    exact rE_get h1 (tm_wr m (by omega) _ (by omega))
  have hf : ∀ w, -32768 ≤ (μ' 6 (18 * m + 6 * p + w)).toInt ∧ (μ' 6 (18 * m + 6 * p + w)).toInt ≤ 32767 := fun w => h2 6 _
  have hM61 : sX9_save_56 (nI p) x (nI m) (nI a) μ' = sX9_save_128 (nI p) x (nI a) (nI (3 * a + p)) (if x = 0 then 1 else 0) (kpM p a (fun w => μ' 6 (18 * m + 6 * p + w)) 6 0 μ') := m_save61 hp ha hm x (fun w => μ' 6 (18 * m + 6 * p + w)) 6 0 μ' rfl hfM
  rw [hM61]
  obtain ⟨κ, hκ⟩ : ∃ κ : TS, kpM p a (fun w => μ' 6 (18 * m + 6 * p + w)) 6 0 μ' = κ := ⟨_, rfl⟩
  rw [hκ]
  have hκk : ∀ k, k ≠ 30 → κ k = μ' k := fun k hk => by rw [← hκ]; exact kpM_ne _ _ _ hk _ _ _
  have hκ30 : ∀ i, κ 30 i = if 18 * a + 6 * p + 0 ≤ i ∧ i < 18 * a + 6 * p + 0 + 6 then μ' 6 (18 * m + 6 * p + (i - (18 * a + 6 * p))) else μ' 30 i := fun i => by rw [← hκ]; exact kpM_at _ _ _ _ _ _ _
  have hκE : ∀ τ, RelE τ μ' → RelE τ κ := fun τ h => by rw [← hκ]; exact rE_kM hp ha 6 0 τ μ' rfl h
  have hκB : InvB κ := by rw [← hκ]; exact iB_kM hf 6 0 μ' h2
  unfold sX8_save_23 sX9_save_128
  rw [if_pos (vin_nI hp (by decide)), if_pos (vin_nI hp (by decide)), if_pos (vin_nI hm (by decide)), if_pos (vin_nI (show 3 * a + p < 6 by omega) (by decide)), if_pos (vin_nI hp (by decide)), nI_clamp (show p < 2 ^ 31 by omega), nI_clamp (show m < 2 ^ 31 by omega), nI_clamp (show 3 * a + p < 2 ^ 31 by omega), m6_nI, m_151 hp, m_151 hp]
  -- what a state keeps that differs from the old ones in the copies alone
  have keep : ∀ (u v : TS), RelE u v → InvB v → (∀ k, k ≠ 30 → k ≠ 31 → k ≠ 32 → v k = μ' k) → (∀ k i, ¬ (53 ≤ k ∧ k ≤ 54) → ¬ (58 ≤ k ∧ k ≤ 59) → ¬ (63 ≤ k ∧ k ≤ 64) → tieT k i → u k i = σ k i) → (∀ q, q < 3 → ∀ i, i < 2 → v 32 q = nI (i + 1) → ∀ w, w < 6 → u (53 + 5 * q + i) w = v 30 (18 * i + 6 * q + w)) → Rel (j + 1) u v := fun u v hE hB hv hu hc => by
    have e0 := hv 0 (by decide) (by decide) (by decide)
    have e1 := hv 1 (by decide) (by decide) (by decide)
    have e3 := hv 3 (by decide) (by decide) (by decide)
    have e6 := hv 6 (by decide) (by decide) (by decide)
    have e7 := hv 7 (by decide) (by decide) (by decide)
    have e10 := hv 10 (by decide) (by decide) (by decide)
    have e11 := hv 11 (by decide) (by decide) (by decide)
    have e12 := hv 12 (by decide) (by decide) (by decide)
    have e13 := hv 13 (by decide) (by decide) (by decide)
    have e17 := hv 17 (by decide) (by decide) (by decide)
    have e22 := hv 22 (by decide) (by decide) (by decide)
    have e23 := hv 23 (by decide) (by decide) (by decide)
    have e25 := hv 25 (by decide) (by decide) (by decide)
    have e37 := hv 37 (by decide) (by decide) (by decide)
    have e38 := hv 38 (by decide) (by decide) (by decide)
    refine ⟨hE, hB, ?_, ⟨fun s hs => ?_, ?_, fun d hd h10 => ?_, hc⟩, fun k14 k15 => ?_, ?_⟩
    · unfold InvM
      rw [e0, e1, e3, e7, e10, e11, e12, e13, e17]
      exact ⟨m1, m2, m3, m4, m5, m6, m7, m8⟩
    · rw [hu _ _ (by omega) (by omega) (by omega) (by unfold tieT; omega), e25]
      exact h4.1 s hs
    · rw [hu _ _ (by omega) (by omega) (by omega) (by unfold tieT; omega), e0]
      exact h4.2.1
    · rw [e10] at h10
      rw [hu _ _ (by omega) (by omega) (by omega) (by unfold tieT; omega), e11]
      exact h4.2.2.1 d hd h10
    · rw [hu _ _ (by omega) (by omega) (by omega) (by unfold tieT; omega)] at k14 k15
      rw [e6, e7, e10, e12, e17, e22, e23]
      exact h5 k14 k15
    · unfold InvL
      rw [e0, e10, e37, e38]
      exact h6
  rcases hz with hx | hx
  · -- kept
    have hTk : sX2_keep p m (nI (6 * p)) σ = some (0, st2 (st2 (kpT p a (fun w => μ' 6 (18 * m + 6 * p + w)) 6 0 σ) (55 + 5 * p) a 1) (51 + 5 * p) 2 (nI a)) := by
      have h0 : sX2_keep p m (nI (6 * p)) σ = (sX2_nextToWrite p σ).bind (fun z => sX2_keep_4 p m (nI (6 * p)) z.1 z.2) := rfl
      rw [h0, hTn, Option.bind_some]
      exact t_keep8 hp ha (fun w => μ' 6 (18 * m + 6 * p + w)) 6 0 σ rfl hfT hm
    rw [if_pos hx, if_pos hx, if_pos hx, hTk, Option.bind_some, nar1]
    unfold sX8_save_61 sX8_save_70
    rw [if_pos (vin_nI hp (by decide)), nI_clamp (show p < 2 ^ 31 by omega), t_cg, Option.bind_some, nI_1]
    have hE : RelE (st2 (st2 (kpT p a (fun w => μ' 6 (18 * m + 6 * p + w)) 6 0 σ) (55 + 5 * p) a 1) (51 + 5 * p) 2 (nI a)) (st2 (st2 κ 31 (3 * a + p) 1) 32 p (nI (a + 1))) := rE_up (rE_up (rE_kT hp ha 6 0 σ κ rfl (hκE σ h1)) (tm_good p hp a ha) rfl) (tm_newest p hp) (by rw [tr_1, nI_pred])
    have hg : ∀ i, i < 2 → (st2 (st2 (kpT p a (fun w => μ' 6 (18 * m + 6 * p + w)) 6 0 σ) (55 + 5 * p) a 1) (51 + 5 * p) 2 (nI a)) (55 + 5 * p) i = (st2 κ 31 (3 * a + p) 1) 31 (3 * i + p) := fun i hi => rE_get hE (tm_good p hp i hi)
    have hg0 := hg 0 (by decide)
    have hg1 := hg 1 (by decide)
    rw [show 3 * 0 + p = p by omega] at hg0
    rw [show 3 * 1 + p = 3 + p by omega] at hg1
    refine ⟨.inl (gz ((st2 (st2 (kpT p a (fun w => μ' 6 (18 * m + 6 * p + w)) 6 0 σ) (55 + 5 * p) a 1) (51 + 5 * p) 2 (nI a)) (55 + 5 * p) 0) + gz ((st2 (st2 (kpT p a (fun w => μ' 6 (18 * m + 6 * p + w)) 6 0 σ) (55 + 5 * p) a 1) (51 + 5 * p) 2 (nI a)) (55 + 5 * p) 1)), (st2 (st2 (kpT p a (fun w => μ' 6 (18 * m + 6 * p + w)) 6 0 σ) (55 + 5 * p) a 1) (51 + 5 * p) 2 (nI a)), _, _, rfl, rfl, ⟨0, rfl, ?_, fun _ => by rw [hg0, hg1]⟩, keep _ _ hE ?_ (fun k k30 k31 k32 => by rw [st2_ne _ _ _ k32, st2_ne _ _ _ k31, hκk k k30]) (fun k i b1 b2 b3 ht => ?_) (fun q hq i hi h32 w hw => ?_)⟩
    · show κ 0 0 = 0
      rw [hκk 0 (by decide), hμ00]
    · refine iB_up (k := 32) (iB_up (k := 31) (v := 1) hκB ⟨by decide, by decide⟩) ?_
      rw [nI_toInt (by omega)]
      show (0 : Int) ≤ _ ∧ _ ≤ (2 : Int)
      omega
    · unfold tieT at ht
      rw [st2_ne _ _ _ (by omega), st2_ne _ _ _ (by omega), kpT_ne _ _ _ (by omega)]
    · show (st2 (st2 (kpT p a (fun w => μ' 6 (18 * m + 6 * p + w)) 6 0 σ) (55 + 5 * p) a 1) (51 + 5 * p) 2 (nI a)) (53 + 5 * q + i) w = κ 30 (18 * i + 6 * q + w)
      have h32' : (st2 κ 32 p (nI (a + 1))) 32 q = nI (i + 1) := h32
      rw [st2_ne _ _ _ (by omega), st2_ne _ _ _ (by omega), hκ30]
      by_cases hqp : q = p
      · subst hqp
        rw [st2_eq] at h32'
        have hia : i = a := by
          have := (nI_eq (by omega) (by omega)).mp h32'
          omega
        subst hia
        rw [kpT_at, if_pos (by omega), if_pos (by omega)]
        congr 1
        omega
      · rw [st2_nj _ _ hqp, hκk 32 (by decide)] at h32'
        rw [kpT_ne _ _ _ (by omega), if_neg (by omega)]
        exact h4.2.2.2 q hq i hi h32' w hw
  · -- cut
    have hx0 : ¬ x = 0 := by rw [hx]; decide
    have hTs : sX2_spoil p σ = some (0, st2 σ (55 + 5 * p) a 0) := by
      have h0 : sX2_spoil p σ = (sX2_nextToWrite p σ).bind (fun z => sX2_spoil_8 p z.1 z.2) := rfl
      rw [h0, hTn, Option.bind_some]
      unfold sX2_spoil_8
      rw [if_pos (vin_nI ha (by decide)), nI_clamp (show a < 2 ^ 31 by omega), nar0]
    rw [if_neg hx0, if_neg hx0, if_neg hx0, hTs, Option.bind_some, nar0]
    unfold sX8_save_36 sX8_save_61 sX8_save_70
    rw [if_pos (vin_nI hp (by decide)), nI_clamp (show p < 2 ^ 31 by omega), t_cg, Option.bind_some]
    have hs32 : st2 (st2 κ 31 (3 * a + p) 0) 32 p ((st2 κ 31 (3 * a + p) 0) 32 p) = st2 κ 31 (3 * a + p) 0 := st2_same rfl
    rw [hs32]
    have hE : RelE (st2 σ (55 + 5 * p) a 0) (st2 κ 31 (3 * a + p) 0) := rE_up (hκE σ h1) (tm_good p hp a ha) rfl
    have hg : ∀ i, i < 2 → (st2 σ (55 + 5 * p) a 0) (55 + 5 * p) i = (st2 κ 31 (3 * a + p) 0) 31 (3 * i + p) := fun i hi => rE_get hE (tm_good p hp i hi)
    have hg0 := hg 0 (by decide)
    have hg1 := hg 1 (by decide)
    rw [show 3 * 0 + p = p by omega] at hg0
    rw [show 3 * 1 + p = 3 + p by omega] at hg1
    refine ⟨.inl (gz ((st2 σ (55 + 5 * p) a 0) (55 + 5 * p) 0) + gz ((st2 σ (55 + 5 * p) a 0) (55 + 5 * p) 1)), (st2 σ (55 + 5 * p) a 0), _, _, rfl, rfl, ⟨0, rfl, ?_, fun _ => by rw [hg0, hg1]⟩, keep _ _ hE (iB_up (k := 31) (v := 0) hκB ⟨by decide, by decide⟩) (fun k k30 k31 k32 => by rw [st2_ne _ _ _ k31, hκk k k30]) (fun k i b1 b2 b3 ht => ?_) (fun q hq i hi h32 w hw => ?_)⟩
    · show κ 0 0 = 0
      rw [hκk 0 (by decide), hμ00]
    · unfold tieT at ht
      rw [st2_ne _ _ _ (by omega)]
    · have h32' : κ 32 q = nI (i + 1) := h32
      show (st2 σ (55 + 5 * p) a 0) (53 + 5 * q + i) w = κ 30 (18 * i + 6 * q + w)
      rw [hκk 32 (by decide)] at h32'
      rw [st2_ne _ _ _ (by omega), hκ30, if_neg (fun hr => ?_)]
      · exact h4.2.2.2 q hq i hi h32' w hw
      · by_cases hqp : q = p
        · subst hqp
          have hia : i = a := by omega
          rw [hia, hμ32] at h32'
          exact hna h32'
        · omega
