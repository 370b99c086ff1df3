/-! ===== numbers: what is left of a script's int, a bit that sticks ===== -/
def someR (x y : Int32) : Int32 := if 0 ≤ x - x / y * y then x - x / y * y else x - x / y * y + y
theorem nx_or (a b : Nat) : nI a ||| nI b = nI (a ||| b) := by
  apply Int32.toBitVec_inj.1
  show BitVec.ofNat 32 a ||| BitVec.ofNat 32 b = BitVec.ofNat 32 (a ||| b)
  apply BitVec.eq_of_getLsbD_eq
  intro i hi
  simp [hi]
theorem some_neg {x : Int32} {d : Nat} (h0 : 0 < d) (hd : d ≤ 1000000) (hx : x.toInt < 0) : (x - x / nI d * nI d).toInt = -((-x.toInt) % (d : Int)) := by
  have hdI : (nI d).toInt = (d : Int) := nI_toInt (by omega)
  have hne : nI d ≠ -1 := nI_ne_m1 (by omega)
  have hr := fb_rng x
  have hdiv : (x / nI d).toInt = -((-x.toInt) / (d : Int)) := by
    rw [Int32.toInt_div_of_ne_right x (nI d) hne, hdI]
    rw [show x.toInt = -(-x.toInt) by omega, Int.neg_tdiv, Int.tdiv_eq_ediv_of_nonneg (by omega)]
    simp
  obtain ⟨q, hq⟩ : ∃ q : Int, q = (-x.toInt) / (d : Int) := ⟨_, rfl⟩
  obtain ⟨r, hr2⟩ : ∃ r : Int, r = (-x.toInt) % (d : Int) := ⟨_, rfl⟩
  have hqr : (d : Int) * q + r = -x.toInt := by rw [hq, hr2]; exact Int.mul_ediv_add_emod _ _
  have hr0 : 0 ≤ r := by rw [hr2]; exact Int.emod_nonneg _ (by omega)
  have hr1 : r < d := by rw [hr2]; exact Int.emod_lt_of_pos _ (by omega)
  rw [← hq] at hdiv
  rw [← hr2]
  have e1 : (x / nI d).toInt * (nI d).toInt = -((d : Int) * q) := by
    rw [hdiv, hdI, Int.neg_mul, Int.mul_comm]
  have hm : (x / nI d * nI d).toInt = -((d : Int) * q) := by
    rw [fb_mulI (by rw [e1]; omega) (by rw [e1]; omega), e1]
  rw [fb_subI (by rw [hm]; omega) (by rw [hm]; omega), hm]
  omega
theorem some_nI (x : Int32) {d : Nat} (h0 : 0 < d) (hd : d ≤ 1000000) : ∃ j, j < d ∧ someR x (nI d) = nI j := by
  unfold someR
  by_cases hx : 0 ≤ x.toInt
  · obtain ⟨a, ha, rfl⟩ := nI_of (x := x) (by rw [lt_iff]; show ¬ x.toInt < 0; omega)
    rw [pk_rem ha h0 (by omega), if_pos (nI_pos' (Nat.lt_of_lt_of_le (Nat.mod_lt _ h0) (by omega)))]
    exact ⟨a % d, Nat.mod_lt _ h0, rfl⟩
  · have h := some_neg (x := x) h0 hd (by omega)
    obtain ⟨y, hy⟩ : ∃ y, y = x - x / nI d * nI d := ⟨_, rfl⟩
    rw [← hy] at h ⊢
    obtain ⟨r, hr2⟩ : ∃ r : Int, r = (-x.toInt) % (d : Int) := ⟨_, rfl⟩
    have hr0 : 0 ≤ r := by rw [hr2]; exact Int.emod_nonneg _ (by omega)
    have hr1 : r < d := by rw [hr2]; exact Int.emod_lt_of_pos _ (by omega)
    rw [← hr2] at h
    by_cases hz : 0 ≤ y
    · rw [if_pos hz]
      have h1 : (0 : Int) ≤ y.toInt := (le_iff 0 y).mp hz
      exact ⟨0, h0, i32_eq (by rw [nI_toInt (by decide)]; omega)⟩
    · rw [if_neg hz]
      have h1 : ¬ (0 : Int) ≤ y.toInt := fun g => hz ((le_iff 0 y).mpr g)
      have hdI : (nI d).toInt = (d : Int) := nI_toInt (by omega)
      have e : (y + nI d).toInt = (d : Int) - r := by
        rw [fb_addI (by rw [hdI]; omega) (by rw [hdI]; omega), hdI]
        omega
      refine ⟨((d : Int) - r).toNat, by omega, i32_eq ?_⟩
      rw [e, nI_toInt (by omega)]
      omega
/-- whether the bit b of n is clear -/
theorem bit_flag {n b : Nat} (hn : n < 8000) (hb : b < 14) : (nI n >>> (nI b &&& 31)) &&& 1 = nI (n / 2 ^ b % 2) := by
  rw [pk_shrN (show n < 2 ^ 31 by omega) (nI b &&& 31) b (s_l b (by omega))]
  exact pk_andN (Nat.lt_of_le_of_lt (Nat.div_le_self _ _) (by omega)) 1 (by decide)
theorem tb_mod (n b : Nat) : n.testBit b = decide (n / 2 ^ b % 2 = 1) := Nat.testBit_eq_decide_div_mod_eq
theorem or_xor {n b : Nat} (h : n.testBit b = false) : n ||| 2 ^ b = n ^^^ 2 ^ b := by
  apply Nat.eq_of_testBit_eq
  intro i
  rw [Nat.testBit_or, Nat.testBit_xor, Nat.testBit_two_pow]
  by_cases hi : b = i
  · subst hi
    rw [h]
    simp
  · simp [hi]
theorem and_xor {n b : Nat} (hn : n < 2 ^ 32) (hb : b < 32) (h : n.testBit b = true) : n &&& (2 ^ b ^^^ (2 ^ 32 - 1)) = n ^^^ 2 ^ b := by
  apply Nat.eq_of_testBit_eq
  intro i
  rw [Nat.testBit_and, Nat.testBit_xor, Nat.testBit_xor, Nat.testBit_two_pow, Nat.testBit_two_pow_sub_one]
  by_cases hi : b = i
  · subst hi
    rw [h]
    simp [hb]
  · by_cases h32 : i < 32
    · simp [hi, h32]
    · have : n.testBit i = false := Nat.testBit_lt_two_pow (Nat.lt_of_lt_of_le hn (Nat.pow_le_pow_right (by decide) (by omega)))
      simp [hi, this]
/-- the number with its bit turned -/
def wr (n b : Nat) : Int32 := nI n ^^^ ((1 : Int32) <<< (nI b &&& 31))
theorem wr_nI {n b : Nat} (hb : b < 14) : wr n b = nI (n ^^^ 2 ^ b) := by
  unfold wr
  rw [bit_N (show b < 16 by omega), nx_xor]
theorem wr_lt {n b : Nat} (hn : n < 8000) (hb : b < 14) : n ^^^ 2 ^ b < 16384 :=
  Nat.xor_lt_two_pow (n := 14) (by omega) (Nat.pow_lt_pow_right (by decide) hb)
theorem short_nI {a : Nat} (h : a < 32768) : (nI a).toInt16.toInt32 = nI a := fb_short (by rw [nI_toInt (by omega)]; omega) (by rw [nI_toInt (by omega)]; omega)
theorem wr_ne {n b : Nat} (hn : n < 8000) (hb : b < 14) : wr n b ≠ nI n := by
  rw [wr_nI hb]
  intro h
  have h1 := (nI_eq (by have := wr_lt hn hb; omega) (by omega)).mp h
  have h2 : (n ^^^ 2 ^ b).testBit b = n.testBit b := by rw [h1]
  rw [Nat.testBit_xor, Nat.testBit_two_pow] at h2
  cases hh : n.testBit b <;> rw [hh] at h2 <;> simp at h2
theorem wr_short {n b : Nat} (hn : n < 8000) (hb : b < 14) : (wr n b).toInt16.toInt32 = wr n b := by
  rw [wr_nI hb]
  exact short_nI (by have := wr_lt hn hb; omega)
/-- what sticks: set where the number's bit is clear, clear where it is set -/
theorem stk_wr {σ : TS} {c n b : Nat} {v : Int32} (hn : n < 8000) (hb : b < 14) (h5 : σ (15 + 6 * c) 5 = nI 3) (h9 : σ (15 + 6 * c) 9 = nI b) (h10 : σ (15 + 6 * c) 10 = v) (hv : v = if (nI n >>> (nI b &&& 31)) &&& 1 = 0 then 1 else 0) : stkT σ c 3 (nI n) = wr n b := by
  have hm : n / 2 ^ b % 2 < 2 := Nat.mod_lt _ (by decide)
  have hp : 2 ^ b < 16384 := Nat.pow_lt_pow_right (n := 14) (by decide) hb
  unfold stkT
  rw [if_pos h5.symm, h9, h10, hv, bit_flag hn hb, bit_N (show b < 16 by omega)]
  by_cases h0 : n / 2 ^ b % 2 = 0
  · have ht : n.testBit b = false := by rw [tb_mod, h0]; rfl
    rw [h0, if_pos (show nI 0 = 0 from rfl), if_neg (show ¬ (1 : Int32) = 0 by decide), nx_or, or_xor ht, ← wr_nI hb]
    exact wr_short hn hb
  · have h1 : n / 2 ^ b % 2 = 1 := by omega
    have ht : n.testBit b = true := by rw [tb_mod, h1]; rfl
    rw [h1, if_neg (show ¬ nI 1 = 0 by decide), if_pos rfl, show (-1 : Int32) = nI (2 ^ 32 - 1) by decide, nx_xor, fa_and, and_xor (by omega) (by omega) ht, ← wr_nI hb]
    exact wr_short hn hb
theorem stk_no {σ : TS} {c r n : Nat} (hn : n < 8000) (hr : r < 4) (h5 : σ (15 + 6 * c) 5 = -1) : stkT σ c r (nI n) = nI n := by
  unfold stkT
  rw [h5, if_neg (nI_ne_m1 (by omega))]
  exact short_nI (by omega)
