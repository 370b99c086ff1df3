/-! ===== plain numbers for the pure side ===== -/
theorem fb_rng (x : Int32) : -2147483648 ≤ x.toInt ∧ x.toInt < 2147483648 := by
  have h1 := Int32.le_toInt x
  have h2 := Int32.toInt_lt x
  omega
theorem fb_bmod {z : Int} (h1 : -2147483648 ≤ z) (h2 : z < 2147483648) : z.bmod (2 ^ 32) = z := by
  rw [Int.bmod_eq_of_le (by omega) (by omega)]
theorem fb_addI {x y : Int32} (h1 : -2147483648 ≤ x.toInt + y.toInt) (h2 : x.toInt + y.toInt < 2147483648) : (x + y).toInt = x.toInt + y.toInt := by
  rw [Int32.toInt_add, fb_bmod h1 h2]
theorem fb_subI {x y : Int32} (h1 : -2147483648 ≤ x.toInt - y.toInt) (h2 : x.toInt - y.toInt < 2147483648) : (x - y).toInt = x.toInt - y.toInt := by
  rw [Int32.toInt_sub, fb_bmod h1 h2]
theorem fb_mulI {x y : Int32} (h1 : -2147483648 ≤ x.toInt * y.toInt) (h2 : x.toInt * y.toInt < 2147483648) : (x * y).toInt = x.toInt * y.toInt := by
  rw [Int32.toInt_mul, fb_bmod h1 h2]
theorem fb_short {x : Int32} (h1 : -32768 ≤ x.toInt) (h2 : x.toInt < 32768) : x.toInt16.toInt32 = x := by
  apply Int32.toInt_inj.1
  rw [Int16.toInt_toInt32, Int32.toInt_toInt16, Int.bmod_eq_of_le (by omega) (by omega)]
theorem fb_short_rng (x : Int32) : -32768 ≤ x.toInt16.toInt32.toInt ∧ x.toInt16.toInt32.toInt < 32768 := by
  rw [Int16.toInt_toInt32]
  have h1 := Int16.le_toInt x.toInt16
  have h2 := Int16.toInt_lt x.toInt16
  omega
theorem fa_and (a b : Nat) : nI a &&& nI b = nI (a &&& b) := by
  apply Int32.toBitVec_inj.1
  show BitVec.ofNat 32 a &&& BitVec.ofNat 32 b = BitVec.ofNat 32 (a &&& b)
  apply BitVec.eq_of_getLsbD_eq
  intro i hi
  simp [hi]
theorem nx_xor (a b : Nat) : nI a ^^^ nI b = nI (a ^^^ b) := by
  apply Int32.toBitVec_inj.1
  show BitVec.ofNat 32 a ^^^ BitVec.ofNat 32 b = BitVec.ofNat 32 (a ^^^ b)
  apply BitVec.eq_of_getLsbD_eq
  intro i hi
  simp [hi]
theorem s_l : ∀ n, n < 32 → ((nI n &&& 31).toBitVec.smod 32).toNat = n := by decide +kernel
theorem nI_m3 (a : Nat) : nI a * 3 = nI (3 * a) := by rw [Nat.mul_comm]; exact pk_mul a 3
theorem nI_m4 (a : Nat) : nI a * 4 = nI (4 * a) := by rw [Nat.mul_comm]; exact pk_mul a 4
theorem nI_m6 (a : Nat) : nI a * 6 = nI (6 * a) := by rw [Nat.mul_comm]; exact pk_mul a 6
theorem nI_m10 (a : Nat) : nI a * 10 = nI (10 * a) := by rw [Nat.mul_comm]; exact pk_mul a 10
theorem nI_m18 (a : Nat) : nI a * 18 = nI (18 * a) := by rw [Nat.mul_comm]; exact pk_mul a 18
theorem m6_nI (a : Nat) : 6 * nI a = nI (6 * a) := pk_mul 6 a
theorem p3_nI (a : Nat) : 3 + nI a = nI (3 + a) := nI_add 3 a
theorem nI_p2 (a : Nat) : nI a + 2 = nI (a + 2) := nI_add a 2
theorem nI_p3 (a : Nat) : nI a + 3 = nI (a + 3) := nI_add a 3
theorem nI_r18 {a : Nat} (h : a < 2 ^ 31) : nI a - nI a / 18 * 18 = nI (a % 18) := pk_rem (d := 18) h (by decide) (by decide)
theorem nI_r30 {a : Nat} (h : a < 2 ^ 31) : nI a - nI a / 30 * 30 = nI (a % 30) := pk_rem (d := 30) h (by decide) (by decide)
theorem fm_nI {a b : Nat} (σ : TS) (ha : a < 2 ^ 31) (h0 : 0 < b) (hb : b < 2 ^ 31) (hz : nzk (nI b) = true) : sJ9_floorMod_7cf53 (nI a) (nI b) σ = some (nI (a % b), σ) := by
  have h2 : a ^^^ b < 2 ^ 31 := Nat.xor_lt_two_pow ha hb
  unfold sJ9_floorMod_7cf53 sJ9_floorMod_7cf53_0 sJ9_floorMod_7cf53_18
  rw [nx_xor, if_pos hz, if_pos (nI_pos' (by omega)), pk_rem ha h0 hb]
theorem fm_18 {a : Nat} (σ : TS) (ha : a < 2 ^ 31) : sJ9_floorMod_7cf53 (nI a) (18 : Int32) σ = some (nI (a % 18), σ) := fm_nI (b := 18) σ ha (by decide) (by decide) (by decide)
theorem fm_30 {a : Nat} (σ : TS) (ha : a < 2 ^ 31) : sJ9_floorMod_7cf53 (nI a) (30 : Int32) σ = some (nI (a % 30), σ) := fm_nI (b := 30) σ ha (by decide) (by decide) (by decide)
theorem lt_iff (x y : Int32) : x < y ↔ x.toInt < y.toInt := Int32.lt_iff_toInt_lt
theorem le_iff (x y : Int32) : x ≤ y ↔ x.toInt ≤ y.toInt := Int32.le_iff_toInt_le
theorem i32_z {x : Int32} (h0 : 0 ≤ x.toInt) (h1 : x.toInt ≤ 1) : x = 0 ∨ x = 1 := by
  rcases (show x.toInt = 0 ∨ x.toInt = 1 by omega) with h | h
  · exact Or.inl (i32_eq (h.trans rfl))
  · exact Or.inr (i32_eq (h.trans rfl))
theorem i32_zok {x : Int32} (h0 : 0 ≤ x.toInt) (h1 : x.toInt ≤ 1) : zok x = true := by
  rcases i32_z h0 h1 with rfl | rfl <;> rfl
/-! states -/
theorem st2_nj (σ : TS) {k j b : Nat} (v : Int32) (h : b ≠ j) : st2 σ k j v k b = σ k b := st2_off σ v (fun hb => h hb.2)
theorem st2_same {σ : TS} {k j : Nat} {v : Int32} (h : σ k j = v) : st2 σ k j v = σ := by
  funext a b
  by_cases hab : a = k ∧ b = j
  · obtain ⟨rfl, rfl⟩ := hab
    rw [st2_eq, h]
  · rw [st2_off _ _ hab]
theorem st2_twice (σ : TS) (k j : Nat) (v w : Int32) : st2 (st2 σ k j v) k j w = st2 σ k j w := by
  funext a b
  by_cases hab : a = k ∧ b = j
  · obtain ⟨rfl, rfl⟩ := hab
    rw [st2_eq, st2_eq]
  · rw [st2_off _ _ hab, st2_off _ _ hab, st2_off _ _ hab]
theorem st2_comm (σ : TS) {k j a b : Nat} (v w : Int32) (h : ¬ (k = a ∧ j = b)) : st2 (st2 σ k j v) a b w = st2 (st2 σ a b w) k j v := by
  funext c d
  by_cases h1 : c = k ∧ d = j
  · obtain ⟨rfl, rfl⟩ := h1
    rw [st2_off _ _ h, st2_eq, st2_eq]
  · by_cases h2 : c = a ∧ d = b
    · obtain ⟨rfl, rfl⟩ := h2
      rw [st2_eq, st2_off _ _ h1, st2_eq]
    · rw [st2_off _ _ h2, st2_off _ _ h1, st2_off _ _ h1, st2_off _ _ h2]
/-! how many bits are set -/
def bc1 (x : Int32) : Int32 := x - (((x.toUInt32 >>> ((1 : Int32).toUInt32 &&& Int32.toUInt32 31)).toInt32) &&& (1431655765 : Int32))
def bc2 (x : Int32) : Int32 := (x &&& (858993459 : Int32)) + (((x.toUInt32 >>> ((2 : Int32).toUInt32 &&& Int32.toUInt32 31)).toInt32) &&& (858993459 : Int32))
def bc3 (x : Int32) : Int32 := (x + ((x.toUInt32 >>> ((4 : Int32).toUInt32 &&& Int32.toUInt32 31)).toInt32)) &&& (252645135 : Int32)
def bc4 (x : Int32) : Int32 := x + ((x.toUInt32 >>> ((8 : Int32).toUInt32 &&& Int32.toUInt32 31)).toInt32)
def bc5 (x : Int32) : Int32 := x + ((x.toUInt32 >>> ((16 : Int32).toUInt32 &&& Int32.toUInt32 31)).toInt32)
theorem bc_form (x : Int32) (σ : TS) : sJ6_bitCount_0f7a4 x σ = some (bc5 (bc4 (bc3 (bc2 (bc1 x)))) &&& (63 : Int32), σ) := rfl
def bcN (n : Nat) : Nat :=
  let a := n - ((n / 2) &&& 1431655765)
  let b := (a &&& 858993459) + ((a / 4) &&& 858993459)
  let c := (b + b / 16) &&& 252645135
  let d := c + c / 256
  let e := d + d / 65536
  e &&& 63
theorem bc1_N {n : Nat} (h : n < 65536) : bc1 (nI n) = nI (n - ((n / 2) &&& 1431655765)) := by
  unfold bc1
  rw [pk_ushrN (by omega) 1 1 rfl, show (1431655765 : Int32) = nI 1431655765 from rfl, fa_and]
  exact pk_sub (Nat.le_trans Nat.and_le_left (Nat.div_le_self _ _))
theorem bc2_N {n : Nat} (h : n < 65536) : bc2 (nI n) = nI ((n &&& 858993459) + ((n / 4) &&& 858993459)) := by
  unfold bc2
  rw [pk_ushrN (by omega) 2 2 rfl, show (858993459 : Int32) = nI 858993459 from rfl, fa_and, fa_and, nI_add]
theorem bc3_N {n : Nat} (h : n < 131072) : bc3 (nI n) = nI ((n + n / 16) &&& 252645135) := by
  unfold bc3
  rw [pk_ushrN (by omega) 4 4 rfl, nI_add, show (252645135 : Int32) = nI 252645135 from rfl, fa_and]
theorem bc4_N {n : Nat} (h : n < 1000000) : bc4 (nI n) = nI (n + n / 256) := by
  unfold bc4
  rw [pk_ushrN (by omega) 8 8 rfl, nI_add]
theorem bc5_N {n : Nat} (h : n < 2000000) : bc5 (nI n) = nI (n + n / 65536) := by
  unfold bc5
  rw [pk_ushrN (by omega) 16 16 rfl, nI_add]
theorem bc_N {n : Nat} (h : n < 65536) (σ : TS) : sJ6_bitCount_0f7a4 (nI n) σ = some (nI (bcN n), σ) := by
  have h1 : n - ((n / 2) &&& 1431655765) < 65536 := by omega
  have h2 : ∀ a : Nat, a < 65536 → (a &&& 858993459) + ((a / 4) &&& 858993459) < 131072 := fun a ha => by
    have e1 : a &&& 858993459 ≤ a := Nat.and_le_left
    have e2 : (a / 4) &&& 858993459 ≤ a / 4 := Nat.and_le_left
    omega
  have h3 : ∀ a : Nat, a < 131072 → (a + a / 16) &&& 252645135 < 1000000 := fun a ha => by
    have e1 : (a + a / 16) &&& 252645135 ≤ a + a / 16 := Nat.and_le_left
    omega
  rw [bc_form, bc1_N h, bc2_N h1, bc3_N (h2 _ h1), bc4_N (h3 _ (h2 _ h1)), bc5_N (by have := h3 _ (h2 _ h1); omega), show (63 : Int32) = nI 63 from rfl, fa_and]
  rfl
def onK (n : Nat) : Nat → Nat → Nat
  | 0, _ => 0
  | d + 1, k => (n / 2 ^ k) % 2 + onK n d (k + 1)
theorem on_K {n : Nat} (h : n < 65536) (σ : TS) : ∀ d k a, d + k = 16 → sX9_ones_4 (d + 1) (nI n) (nI a) (nI k) σ = some (nI (a + onK n d k), σ) := by
  intro d
  induction d with
  | zero =>
    intro k a hk
    rw [show k = 16 by omega]
    rfl
  | succ d ih =>
    intro k a hk
    have h1 : sX9_ones_4 (d + 1 + 1) (nI n) (nI a) (nI k) σ = (if ((16 : Int32)) ≤ nI k then some (nI a, σ) else sX9_ones_4 (d + 1) (nI n) (nI a + ((nI n >>> (nI k &&& 31)) &&& ((1 : Int32)))) (nI k + (1 : Int32)) σ) := rfl
    rw [h1, if_neg (show ¬ (16 : Int32) ≤ nI k from nI_ge (b := 16) (by omega) (by decide)), pk_shrN (by omega) (nI k &&& 31) k (s_l k (by omega)), pk_andN (Nat.lt_of_le_of_lt (Nat.div_le_self _ _) (by omega)) 1 rfl, nI_add, nI_1, ih (k + 1) _ (by omega)]
    rw [Nat.add_assoc]
    rfl
theorem on_N {n : Nat} (h : n < 65536) (σ : TS) : sX9_ones (nI n) σ = some (nI (onK n 16 0), σ) := by
  have := on_K h σ 16 0 0 rfl
  rw [Nat.zero_add] at this
  exact this
noncomputable def allN (n : Nat) (f : Nat → Bool) : Bool := Nat.rec true (fun i ih => and (f i) ih) n
theorem allN_at {f : Nat → Bool} : ∀ {n : Nat}, allN n f = true → ∀ i, i < n → f i = true
  | 0, _, i, hi => by omega
  | n + 1, h, i, hi => by
    have h' : (f n && allN n f) = true := h
    rw [Bool.and_eq_true] at h'
    rcases Nat.lt_or_ge i n with h1 | h1
    · exact allN_at h'.2 i h1
    · rw [show i = n by omega]
      exact h'.1
def bq1 (n : Nat) : Nat := Nat.sub n (Nat.land (Nat.div n 2) 1431655765)
def bq2 (n : Nat) : Nat := Nat.add (Nat.land n 858993459) (Nat.land (Nat.div n 4) 858993459)
def bq3 (n : Nat) : Nat := Nat.land (Nat.add n (Nat.div n 16)) 252645135
def bq4 (n : Nat) : Nat := Nat.add n (Nat.div n 256)
def bq5 (n : Nat) : Nat := Nat.land (Nat.add n (Nat.div n 65536)) 63
def bq (n : Nat) : Nat := bq5 (bq4 (bq3 (bq2 (bq1 n))))
def oq (n : Nat) : Nat := Nat.add (Nat.mod n 2) (Nat.add (Nat.mod (Nat.div n 2) 2) (Nat.add (Nat.mod (Nat.div n 4) 2) (Nat.add (Nat.mod (Nat.div n 8) 2) (Nat.add (Nat.mod (Nat.div n 16) 2) (Nat.add (Nat.mod (Nat.div n 32) 2) (Nat.add (Nat.mod (Nat.div n 64) 2) (Nat.add (Nat.mod (Nat.div n 128) 2) (Nat.add (Nat.mod (Nat.div n 256) 2) (Nat.add (Nat.mod (Nat.div n 512) 2) (Nat.add (Nat.mod (Nat.div n 1024) 2) (Nat.add (Nat.mod (Nat.div n 2048) 2) (Nat.add (Nat.mod (Nat.div n 4096) 2) (Nat.add (Nat.mod (Nat.div n 8192) 2) (Nat.add (Nat.mod (Nat.div n 16384) 2) (Nat.mod (Nat.div n 32768) 2)))))))))))))))
theorem bq_bc (n : Nat) : bcN n = bq n := rfl
theorem oq_on (n : Nat) : onK n 16 0 = oq n := by
  show n / 2 ^ 0 % 2 + (n / 2 ^ 1 % 2 + (n / 2 ^ 2 % 2 + (n / 2 ^ 3 % 2 + (n / 2 ^ 4 % 2 + (n / 2 ^ 5 % 2 + (n / 2 ^ 6 % 2 + (n / 2 ^ 7 % 2 + (n / 2 ^ 8 % 2 + (n / 2 ^ 9 % 2 + (n / 2 ^ 10 % 2 + (n / 2 ^ 11 % 2 + (n / 2 ^ 12 % 2 + (n / 2 ^ 13 % 2 + (n / 2 ^ 14 % 2 + (n / 2 ^ 15 % 2 + 0))))))))))))))) = _
  rw [Nat.pow_zero, Nat.div_one, Nat.add_zero]
  rfl
def bcT (n : Nat) : Bool := and (Nat.beq (bq n) (oq n)) (and (Nat.ble (bq n) 16) (or (Nat.beq n 0) (Nat.ble 1 (bq n))))
theorem bc_p0 : allN 4 (fun h => allN 256 (fun l => bcT (Nat.add (Nat.add 0 (Nat.mul 256 h)) l))) = true := by decide +kernel
theorem bc_p1 : allN 4 (fun h => allN 256 (fun l => bcT (Nat.add (Nat.add 1024 (Nat.mul 256 h)) l))) = true := by decide +kernel
theorem bc_p2 : allN 4 (fun h => allN 256 (fun l => bcT (Nat.add (Nat.add 2048 (Nat.mul 256 h)) l))) = true := by decide +kernel
theorem bc_p3 : allN 4 (fun h => allN 256 (fun l => bcT (Nat.add (Nat.add 3072 (Nat.mul 256 h)) l))) = true := by decide +kernel
theorem bc_p4 : allN 4 (fun h => allN 256 (fun l => bcT (Nat.add (Nat.add 4096 (Nat.mul 256 h)) l))) = true := by decide +kernel
theorem bc_p5 : allN 4 (fun h => allN 256 (fun l => bcT (Nat.add (Nat.add 5120 (Nat.mul 256 h)) l))) = true := by decide +kernel
theorem bc_p6 : allN 4 (fun h => allN 256 (fun l => bcT (Nat.add (Nat.add 6144 (Nat.mul 256 h)) l))) = true := by decide +kernel
theorem bc_p7 : allN 4 (fun h => allN 256 (fun l => bcT (Nat.add (Nat.add 7168 (Nat.mul 256 h)) l))) = true := by decide +kernel
theorem bc_p8 : allN 4 (fun h => allN 256 (fun l => bcT (Nat.add (Nat.add 8192 (Nat.mul 256 h)) l))) = true := by decide +kernel
theorem bc_p9 : allN 4 (fun h => allN 256 (fun l => bcT (Nat.add (Nat.add 9216 (Nat.mul 256 h)) l))) = true := by decide +kernel
theorem bc_p10 : allN 4 (fun h => allN 256 (fun l => bcT (Nat.add (Nat.add 10240 (Nat.mul 256 h)) l))) = true := by decide +kernel
theorem bc_p11 : allN 4 (fun h => allN 256 (fun l => bcT (Nat.add (Nat.add 11264 (Nat.mul 256 h)) l))) = true := by decide +kernel
theorem bc_p12 : allN 4 (fun h => allN 256 (fun l => bcT (Nat.add (Nat.add 12288 (Nat.mul 256 h)) l))) = true := by decide +kernel
theorem bc_p13 : allN 4 (fun h => allN 256 (fun l => bcT (Nat.add (Nat.add 13312 (Nat.mul 256 h)) l))) = true := by decide +kernel
theorem bc_p14 : allN 4 (fun h => allN 256 (fun l => bcT (Nat.add (Nat.add 14336 (Nat.mul 256 h)) l))) = true := by decide +kernel
theorem bc_p15 : allN 4 (fun h => allN 256 (fun l => bcT (Nat.add (Nat.add 15360 (Nat.mul 256 h)) l))) = true := by decide +kernel
theorem bc_p16 : allN 4 (fun h => allN 256 (fun l => bcT (Nat.add (Nat.add 16384 (Nat.mul 256 h)) l))) = true := by decide +kernel
theorem bc_p17 : allN 4 (fun h => allN 256 (fun l => bcT (Nat.add (Nat.add 17408 (Nat.mul 256 h)) l))) = true := by decide +kernel
theorem bc_p18 : allN 4 (fun h => allN 256 (fun l => bcT (Nat.add (Nat.add 18432 (Nat.mul 256 h)) l))) = true := by decide +kernel
theorem bc_p19 : allN 4 (fun h => allN 256 (fun l => bcT (Nat.add (Nat.add 19456 (Nat.mul 256 h)) l))) = true := by decide +kernel
theorem bc_p20 : allN 4 (fun h => allN 256 (fun l => bcT (Nat.add (Nat.add 20480 (Nat.mul 256 h)) l))) = true := by decide +kernel
theorem bc_p21 : allN 4 (fun h => allN 256 (fun l => bcT (Nat.add (Nat.add 21504 (Nat.mul 256 h)) l))) = true := by decide +kernel
theorem bc_p22 : allN 4 (fun h => allN 256 (fun l => bcT (Nat.add (Nat.add 22528 (Nat.mul 256 h)) l))) = true := by decide +kernel
theorem bc_p23 : allN 4 (fun h => allN 256 (fun l => bcT (Nat.add (Nat.add 23552 (Nat.mul 256 h)) l))) = true := by decide +kernel
theorem bc_p24 : allN 4 (fun h => allN 256 (fun l => bcT (Nat.add (Nat.add 24576 (Nat.mul 256 h)) l))) = true := by decide +kernel
theorem bc_p25 : allN 4 (fun h => allN 256 (fun l => bcT (Nat.add (Nat.add 25600 (Nat.mul 256 h)) l))) = true := by decide +kernel
theorem bc_p26 : allN 4 (fun h => allN 256 (fun l => bcT (Nat.add (Nat.add 26624 (Nat.mul 256 h)) l))) = true := by decide +kernel
theorem bc_p27 : allN 4 (fun h => allN 256 (fun l => bcT (Nat.add (Nat.add 27648 (Nat.mul 256 h)) l))) = true := by decide +kernel
theorem bc_p28 : allN 4 (fun h => allN 256 (fun l => bcT (Nat.add (Nat.add 28672 (Nat.mul 256 h)) l))) = true := by decide +kernel
theorem bc_p29 : allN 4 (fun h => allN 256 (fun l => bcT (Nat.add (Nat.add 29696 (Nat.mul 256 h)) l))) = true := by decide +kernel
theorem bc_p30 : allN 4 (fun h => allN 256 (fun l => bcT (Nat.add (Nat.add 30720 (Nat.mul 256 h)) l))) = true := by decide +kernel
theorem bc_p31 : allN 4 (fun h => allN 256 (fun l => bcT (Nat.add (Nat.add 31744 (Nat.mul 256 h)) l))) = true := by decide +kernel
theorem bc_p32 : allN 4 (fun h => allN 256 (fun l => bcT (Nat.add (Nat.add 32768 (Nat.mul 256 h)) l))) = true := by decide +kernel
theorem bc_p33 : allN 4 (fun h => allN 256 (fun l => bcT (Nat.add (Nat.add 33792 (Nat.mul 256 h)) l))) = true := by decide +kernel
theorem bc_p34 : allN 4 (fun h => allN 256 (fun l => bcT (Nat.add (Nat.add 34816 (Nat.mul 256 h)) l))) = true := by decide +kernel
theorem bc_p35 : allN 4 (fun h => allN 256 (fun l => bcT (Nat.add (Nat.add 35840 (Nat.mul 256 h)) l))) = true := by decide +kernel
theorem bc_p36 : allN 4 (fun h => allN 256 (fun l => bcT (Nat.add (Nat.add 36864 (Nat.mul 256 h)) l))) = true := by decide +kernel
theorem bc_p37 : allN 4 (fun h => allN 256 (fun l => bcT (Nat.add (Nat.add 37888 (Nat.mul 256 h)) l))) = true := by decide +kernel
theorem bc_p38 : allN 4 (fun h => allN 256 (fun l => bcT (Nat.add (Nat.add 38912 (Nat.mul 256 h)) l))) = true := by decide +kernel
theorem bc_p39 : allN 4 (fun h => allN 256 (fun l => bcT (Nat.add (Nat.add 39936 (Nat.mul 256 h)) l))) = true := by decide +kernel
theorem bc_p40 : allN 4 (fun h => allN 256 (fun l => bcT (Nat.add (Nat.add 40960 (Nat.mul 256 h)) l))) = true := by decide +kernel
theorem bc_p41 : allN 4 (fun h => allN 256 (fun l => bcT (Nat.add (Nat.add 41984 (Nat.mul 256 h)) l))) = true := by decide +kernel
theorem bc_p42 : allN 4 (fun h => allN 256 (fun l => bcT (Nat.add (Nat.add 43008 (Nat.mul 256 h)) l))) = true := by decide +kernel
theorem bc_p43 : allN 4 (fun h => allN 256 (fun l => bcT (Nat.add (Nat.add 44032 (Nat.mul 256 h)) l))) = true := by decide +kernel
theorem bc_p44 : allN 4 (fun h => allN 256 (fun l => bcT (Nat.add (Nat.add 45056 (Nat.mul 256 h)) l))) = true := by decide +kernel
theorem bc_p45 : allN 4 (fun h => allN 256 (fun l => bcT (Nat.add (Nat.add 46080 (Nat.mul 256 h)) l))) = true := by decide +kernel
theorem bc_p46 : allN 4 (fun h => allN 256 (fun l => bcT (Nat.add (Nat.add 47104 (Nat.mul 256 h)) l))) = true := by decide +kernel
theorem bc_p47 : allN 4 (fun h => allN 256 (fun l => bcT (Nat.add (Nat.add 48128 (Nat.mul 256 h)) l))) = true := by decide +kernel
theorem bc_p48 : allN 4 (fun h => allN 256 (fun l => bcT (Nat.add (Nat.add 49152 (Nat.mul 256 h)) l))) = true := by decide +kernel
theorem bc_p49 : allN 4 (fun h => allN 256 (fun l => bcT (Nat.add (Nat.add 50176 (Nat.mul 256 h)) l))) = true := by decide +kernel
theorem bc_p50 : allN 4 (fun h => allN 256 (fun l => bcT (Nat.add (Nat.add 51200 (Nat.mul 256 h)) l))) = true := by decide +kernel
theorem bc_p51 : allN 4 (fun h => allN 256 (fun l => bcT (Nat.add (Nat.add 52224 (Nat.mul 256 h)) l))) = true := by decide +kernel
theorem bc_p52 : allN 4 (fun h => allN 256 (fun l => bcT (Nat.add (Nat.add 53248 (Nat.mul 256 h)) l))) = true := by decide +kernel
theorem bc_p53 : allN 4 (fun h => allN 256 (fun l => bcT (Nat.add (Nat.add 54272 (Nat.mul 256 h)) l))) = true := by decide +kernel
theorem bc_p54 : allN 4 (fun h => allN 256 (fun l => bcT (Nat.add (Nat.add 55296 (Nat.mul 256 h)) l))) = true := by decide +kernel
theorem bc_p55 : allN 4 (fun h => allN 256 (fun l => bcT (Nat.add (Nat.add 56320 (Nat.mul 256 h)) l))) = true := by decide +kernel
theorem bc_p56 : allN 4 (fun h => allN 256 (fun l => bcT (Nat.add (Nat.add 57344 (Nat.mul 256 h)) l))) = true := by decide +kernel
theorem bc_p57 : allN 4 (fun h => allN 256 (fun l => bcT (Nat.add (Nat.add 58368 (Nat.mul 256 h)) l))) = true := by decide +kernel
theorem bc_p58 : allN 4 (fun h => allN 256 (fun l => bcT (Nat.add (Nat.add 59392 (Nat.mul 256 h)) l))) = true := by decide +kernel
theorem bc_p59 : allN 4 (fun h => allN 256 (fun l => bcT (Nat.add (Nat.add 60416 (Nat.mul 256 h)) l))) = true := by decide +kernel
theorem bc_p60 : allN 4 (fun h => allN 256 (fun l => bcT (Nat.add (Nat.add 61440 (Nat.mul 256 h)) l))) = true := by decide +kernel
theorem bc_p61 : allN 4 (fun h => allN 256 (fun l => bcT (Nat.add (Nat.add 62464 (Nat.mul 256 h)) l))) = true := by decide +kernel
theorem bc_p62 : allN 4 (fun h => allN 256 (fun l => bcT (Nat.add (Nat.add 63488 (Nat.mul 256 h)) l))) = true := by decide +kernel
theorem bc_p63 : allN 4 (fun h => allN 256 (fun l => bcT (Nat.add (Nat.add 64512 (Nat.mul 256 h)) l))) = true := by decide +kernel
theorem bc_pp {b : Nat} (h : allN 4 (fun h => allN 256 (fun l => bcT (Nat.add (Nat.add b (Nat.mul 256 h)) l))) = true) {n : Nat} (h1 : b ≤ n) (h2 : n < b + 1024) : bcT n = true := by
  have h3 := allN_at (allN_at h ((n - b) / 256) (by omega)) ((n - b) % 256) (by omega)
  have h4 : Nat.add (Nat.add b (Nat.mul 256 ((n - b) / 256))) ((n - b) % 256) = n := by
    show b + 256 * ((n - b) / 256) + (n - b) % 256 = n
    omega
  rw [h4] at h3
  exact h3
theorem bc_at' {n : Nat} (h : n < 65536) : bcT n = true := by
  rcases Nat.lt_or_ge n 32768 with g0_64 | g0_64
  · rcases Nat.lt_or_ge n 16384 with g0_32 | g0_32
    · rcases Nat.lt_or_ge n 8192 with g0_16 | g0_16
      · rcases Nat.lt_or_ge n 4096 with g0_8 | g0_8
        · rcases Nat.lt_or_ge n 2048 with g0_4 | g0_4
          · rcases Nat.lt_or_ge n 1024 with g0_2 | g0_2
            · exact bc_pp bc_p0 (by omega) (by omega)
            · exact bc_pp bc_p1 (by omega) (by omega)
          · rcases Nat.lt_or_ge n 3072 with g2_4 | g2_4
            · exact bc_pp bc_p2 (by omega) (by omega)
            · exact bc_pp bc_p3 (by omega) (by omega)
        · rcases Nat.lt_or_ge n 6144 with g4_8 | g4_8
          · rcases Nat.lt_or_ge n 5120 with g4_6 | g4_6
            · exact bc_pp bc_p4 (by omega) (by omega)
            · exact bc_pp bc_p5 (by omega) (by omega)
          · rcases Nat.lt_or_ge n 7168 with g6_8 | g6_8
            · exact bc_pp bc_p6 (by omega) (by omega)
            · exact bc_pp bc_p7 (by omega) (by omega)
      · rcases Nat.lt_or_ge n 12288 with g8_16 | g8_16
        · rcases Nat.lt_or_ge n 10240 with g8_12 | g8_12
          · rcases Nat.lt_or_ge n 9216 with g8_10 | g8_10
            · exact bc_pp bc_p8 (by omega) (by omega)
            · exact bc_pp bc_p9 (by omega) (by omega)
          · rcases Nat.lt_or_ge n 11264 with g10_12 | g10_12
            · exact bc_pp bc_p10 (by omega) (by omega)
            · exact bc_pp bc_p11 (by omega) (by omega)
        · rcases Nat.lt_or_ge n 14336 with g12_16 | g12_16
          · rcases Nat.lt_or_ge n 13312 with g12_14 | g12_14
            · exact bc_pp bc_p12 (by omega) (by omega)
            · exact bc_pp bc_p13 (by omega) (by omega)
          · rcases Nat.lt_or_ge n 15360 with g14_16 | g14_16
            · exact bc_pp bc_p14 (by omega) (by omega)
            · exact bc_pp bc_p15 (by omega) (by omega)
    · rcases Nat.lt_or_ge n 24576 with g16_32 | g16_32
      · rcases Nat.lt_or_ge n 20480 with g16_24 | g16_24
        · rcases Nat.lt_or_ge n 18432 with g16_20 | g16_20
          · rcases Nat.lt_or_ge n 17408 with g16_18 | g16_18
            · exact bc_pp bc_p16 (by omega) (by omega)
            · exact bc_pp bc_p17 (by omega) (by omega)
          · rcases Nat.lt_or_ge n 19456 with g18_20 | g18_20
            · exact bc_pp bc_p18 (by omega) (by omega)
            · exact bc_pp bc_p19 (by omega) (by omega)
        · rcases Nat.lt_or_ge n 22528 with g20_24 | g20_24
          · rcases Nat.lt_or_ge n 21504 with g20_22 | g20_22
            · exact bc_pp bc_p20 (by omega) (by omega)
            · exact bc_pp bc_p21 (by omega) (by omega)
          · rcases Nat.lt_or_ge n 23552 with g22_24 | g22_24
            · exact bc_pp bc_p22 (by omega) (by omega)
            · exact bc_pp bc_p23 (by omega) (by omega)
      · rcases Nat.lt_or_ge n 28672 with g24_32 | g24_32
        · rcases Nat.lt_or_ge n 26624 with g24_28 | g24_28
          · rcases Nat.lt_or_ge n 25600 with g24_26 | g24_26
            · exact bc_pp bc_p24 (by omega) (by omega)
            · exact bc_pp bc_p25 (by omega) (by omega)
          · rcases Nat.lt_or_ge n 27648 with g26_28 | g26_28
            · exact bc_pp bc_p26 (by omega) (by omega)
            · exact bc_pp bc_p27 (by omega) (by omega)
        · rcases Nat.lt_or_ge n 30720 with g28_32 | g28_32
          · rcases Nat.lt_or_ge n 29696 with g28_30 | g28_30
            · exact bc_pp bc_p28 (by omega) (by omega)
            · exact bc_pp bc_p29 (by omega) (by omega)
          · rcases Nat.lt_or_ge n 31744 with g30_32 | g30_32
            · exact bc_pp bc_p30 (by omega) (by omega)
            · exact bc_pp bc_p31 (by omega) (by omega)
  · rcases Nat.lt_or_ge n 49152 with g32_64 | g32_64
    · rcases Nat.lt_or_ge n 40960 with g32_48 | g32_48
      · rcases Nat.lt_or_ge n 36864 with g32_40 | g32_40
        · rcases Nat.lt_or_ge n 34816 with g32_36 | g32_36
          · rcases Nat.lt_or_ge n 33792 with g32_34 | g32_34
            · exact bc_pp bc_p32 (by omega) (by omega)
            · exact bc_pp bc_p33 (by omega) (by omega)
          · rcases Nat.lt_or_ge n 35840 with g34_36 | g34_36
            · exact bc_pp bc_p34 (by omega) (by omega)
            · exact bc_pp bc_p35 (by omega) (by omega)
        · rcases Nat.lt_or_ge n 38912 with g36_40 | g36_40
          · rcases Nat.lt_or_ge n 37888 with g36_38 | g36_38
            · exact bc_pp bc_p36 (by omega) (by omega)
            · exact bc_pp bc_p37 (by omega) (by omega)
          · rcases Nat.lt_or_ge n 39936 with g38_40 | g38_40
            · exact bc_pp bc_p38 (by omega) (by omega)
            · exact bc_pp bc_p39 (by omega) (by omega)
      · rcases Nat.lt_or_ge n 45056 with g40_48 | g40_48
        · rcases Nat.lt_or_ge n 43008 with g40_44 | g40_44
          · rcases Nat.lt_or_ge n 41984 with g40_42 | g40_42
            · exact bc_pp bc_p40 (by omega) (by omega)
            · exact bc_pp bc_p41 (by omega) (by omega)
          · rcases Nat.lt_or_ge n 44032 with g42_44 | g42_44
            · exact bc_pp bc_p42 (by omega) (by omega)
            · exact bc_pp bc_p43 (by omega) (by omega)
        · rcases Nat.lt_or_ge n 47104 with g44_48 | g44_48
          · rcases Nat.lt_or_ge n 46080 with g44_46 | g44_46
            · exact bc_pp bc_p44 (by omega) (by omega)
            · exact bc_pp bc_p45 (by omega) (by omega)
          · rcases Nat.lt_or_ge n 48128 with g46_48 | g46_48
            · exact bc_pp bc_p46 (by omega) (by omega)
            · exact bc_pp bc_p47 (by omega) (by omega)
    · rcases Nat.lt_or_ge n 57344 with g48_64 | g48_64
      · rcases Nat.lt_or_ge n 53248 with g48_56 | g48_56
        · rcases Nat.lt_or_ge n 51200 with g48_52 | g48_52
          · rcases Nat.lt_or_ge n 50176 with g48_50 | g48_50
            · exact bc_pp bc_p48 (by omega) (by omega)
            · exact bc_pp bc_p49 (by omega) (by omega)
          · rcases Nat.lt_or_ge n 52224 with g50_52 | g50_52
            · exact bc_pp bc_p50 (by omega) (by omega)
            · exact bc_pp bc_p51 (by omega) (by omega)
        · rcases Nat.lt_or_ge n 55296 with g52_56 | g52_56
          · rcases Nat.lt_or_ge n 54272 with g52_54 | g52_54
            · exact bc_pp bc_p52 (by omega) (by omega)
            · exact bc_pp bc_p53 (by omega) (by omega)
          · rcases Nat.lt_or_ge n 56320 with g54_56 | g54_56
            · exact bc_pp bc_p54 (by omega) (by omega)
            · exact bc_pp bc_p55 (by omega) (by omega)
      · rcases Nat.lt_or_ge n 61440 with g56_64 | g56_64
        · rcases Nat.lt_or_ge n 59392 with g56_60 | g56_60
          · rcases Nat.lt_or_ge n 58368 with g56_58 | g56_58
            · exact bc_pp bc_p56 (by omega) (by omega)
            · exact bc_pp bc_p57 (by omega) (by omega)
          · rcases Nat.lt_or_ge n 60416 with g58_60 | g58_60
            · exact bc_pp bc_p58 (by omega) (by omega)
            · exact bc_pp bc_p59 (by omega) (by omega)
        · rcases Nat.lt_or_ge n 63488 with g60_64 | g60_64
          · rcases Nat.lt_or_ge n 62464 with g60_62 | g60_62
            · exact bc_pp bc_p60 (by omega) (by omega)
            · exact bc_pp bc_p61 (by omega) (by omega)
          · rcases Nat.lt_or_ge n 64512 with g62_64 | g62_64
            · exact bc_pp bc_p62 (by omega) (by omega)
            · exact bc_pp bc_p63 (by omega) (by omega)
theorem bc_at {n : Nat} (h : n < 65536) : bcN n = onK n 16 0 ∧ bcN n ≤ 16 ∧ (n = 0 ∨ 1 ≤ bcN n) := by
  have h1 := bc_at' h
  unfold bcT at h1
  rw [Bool.and_eq_true, Bool.and_eq_true, Bool.or_eq_true] at h1
  obtain ⟨a, b, c⟩ := h1
  rw [bq_bc, oq_on]
  refine ⟨Nat.eq_of_beq_eq_true a, Nat.le_of_ble_eq_true b, ?_⟩
  rcases c with c | c
  · exact Or.inl (Nat.eq_of_beq_eq_true c)
  · exact Or.inr (Nat.le_of_ble_eq_true c)
/-- the bits that are set in a row of 16 -/
def cntb (x : Int32) : Nat := bcN x.toNatClampNeg
theorem i32_16 {x : Int32} (h0 : 0 ≤ x.toInt) (h1 : x.toInt ≤ 65535) : ∃ n : Nat, n < 65536 ∧ x = nI n ∧ x.toNatClampNeg = n := by
  obtain ⟨n, hn, rfl⟩ := i32_nI (n := 65535) h0 h1
  exact ⟨n, by omega, rfl, nI_clamp (by omega)⟩
theorem cnt_T {x : Int32} (h : 0 ≤ x.toInt ∧ x.toInt ≤ 65535) (σ : TS) : sJ6_bitCount_0f7a4 x σ = some (nI (cntb x), σ) := by
  obtain ⟨n, hn, rfl, hc⟩ := i32_16 h.1 h.2
  rw [bc_N hn]
  unfold cntb
  rw [hc]
theorem cnt_M {x : Int32} (h : 0 ≤ x.toInt ∧ x.toInt ≤ 65535) (σ : TS) : sX9_ones x σ = some (nI (cntb x), σ) := by
  obtain ⟨n, hn, rfl, hc⟩ := i32_16 h.1 h.2
  rw [on_N hn]
  unfold cntb
  rw [hc, (bc_at hn).1]
theorem cnt_16 {x : Int32} (h : 0 ≤ x.toInt ∧ x.toInt ≤ 65535) : cntb x ≤ 16 := by
  obtain ⟨n, hn, rfl, hc⟩ := i32_16 h.1 h.2
  unfold cntb
  rw [hc]
  exact (bc_at hn).2.1
theorem cnt_0 {x : Int32} (h : 0 ≤ x.toInt ∧ x.toInt ≤ 65535) (h0 : cntb x = 0) : x = 0 := by
  obtain ⟨n, hn, rfl, hc⟩ := i32_16 h.1 h.2
  unfold cntb at h0
  rw [hc] at h0
  rcases (bc_at hn).2.2 with h1 | h1
  · rw [h1]
    rfl
  · omega
theorem cnt_z : cntb 0 = 0 := by decide +kernel
/-- one bit of a row of 16 turned -/
theorem bit_N {b : Nat} (h : b < 16) : (1 : Int32) <<< (nI b &&& 31) = nI (2 ^ b) := by
  have h1 := pk_shlN (n := 1) (nI b &&& 31) b (s_l b (by omega)) (by
    have : 2 ^ b ≤ 2 ^ 15 := Nat.pow_le_pow_right (by decide) (by omega)
    omega)
  rw [Nat.one_mul] at h1
  exact h1
theorem turn_16 {x : Int32} (h : 0 ≤ x.toInt ∧ x.toInt ≤ 65535) {b : Nat} (hb : b < 16) : 0 ≤ (x ^^^ ((1 : Int32) <<< (nI b &&& 31))).toInt ∧ (x ^^^ ((1 : Int32) <<< (nI b &&& 31))).toInt ≤ 65535 := by
  obtain ⟨n, hn, rfl, hc⟩ := i32_16 h.1 h.2
  have h2 : 2 ^ b < 2 ^ 16 := Nat.pow_lt_pow_right (by decide) hb
  have h3 : n ^^^ 2 ^ b < 2 ^ 16 := Nat.xor_lt_two_pow hn h2
  rw [bit_N hb, nx_xor, nI_toInt (by omega)]
  omega
/-! the middle of three, at most and at least -/
theorem ite_lt_max (a b : Int32) : (if a < b then b else a).toInt = max a.toInt b.toInt := by
  by_cases h : a < b
  · rw [if_pos h, Int.max_eq_right (by rw [lt_iff] at h; omega)]
  · rw [if_neg h, Int.max_eq_left (by rw [lt_iff] at h; omega)]
theorem ite_lt_min (a b : Int32) : (if b < a then b else a).toInt = min a.toInt b.toInt := by
  by_cases h : b < a
  · rw [if_pos h, Int.min_eq_right (by rw [lt_iff] at h; omega)]
  · rw [if_neg h, Int.min_eq_left (by rw [lt_iff] at h; omega)]
def gr (a b : Int32) : Int32 := if a ≤ b then b else a
def ls (a b : Int32) : Int32 := if b ≤ a then b else a
theorem gr_I (a b : Int32) : (gr a b).toInt = max a.toInt b.toInt := by
  unfold gr
  by_cases h : a ≤ b
  · rw [if_pos h, Int.max_eq_right ((le_iff _ _).mp h)]
  · rw [if_neg h, Int.max_eq_left (by rw [le_iff] at h; omega)]
theorem ls_I (a b : Int32) : (ls a b).toInt = min a.toInt b.toInt := by
  unfold ls
  by_cases h : b ≤ a
  · rw [if_pos h, Int.min_eq_right ((le_iff _ _).mp h)]
  · rw [if_neg h, Int.min_eq_left (by rw [le_iff] at h; omega)]
def md (a b c : Int32) : Int32 := gr (ls a b) (ls (gr a b) c)
theorem md_I (a b c : Int32) : (md a b c).toInt = mid a.toInt b.toInt c.toInt := by
  unfold md mid
  rw [gr_I, ls_I, ls_I, gr_I]
theorem m_greater (a b : Int32) (μ : TS) : sX9_greater a b μ = some (gr a b, μ) := by
  unfold sX9_greater sX9_greater_0 gr sX9_greater_10
  by_cases h : a ≤ b
  · rw [if_pos h, if_pos h]
  · rw [if_neg h, if_neg h]
theorem m_lesser (a b : Int32) (μ : TS) : sX9_lesser a b μ = some (ls a b, μ) := by
  unfold sX9_lesser sX9_lesser_0 ls sX9_lesser_10
  by_cases h : b ≤ a
  · rw [if_pos h, if_pos h]
  · rw [if_neg h, if_neg h]
theorem m_middle (a b c : Int32) (μ : TS) : sX9_middle a b c μ = some (md a b c, μ) := by
  simp only [sX9_middle, sX9_middle_0, sX9_middle_5, sX9_middle_10, sX9_middle_14, sX9_middle_17, m_greater, m_lesser, Option.bind_some, md]
theorem t_middle (a b c : Int32) (σ : TS) : sX5_middle a b c σ = some (md a b c, σ) := by
  unfold sX5_middle sX5_middle_0
  congr 2
  apply i32_eq
  rw [md_I, ite_lt_max, ite_lt_min, ite_lt_min, ite_lt_max]
  rfl
theorem mid_sw (a b c : Int) : mid a b c = mid a c b := by
  unfold mid
  omega
theorem mid_rng {a b c l h : Int} (ha : l ≤ a ∧ a ≤ h) (hb : l ≤ b ∧ b ≤ h) (hc : l ≤ c ∧ c ≤ h) : l ≤ mid a b c ∧ mid a b c ≤ h := by
  unfold mid
  omega
theorem md_sw (a b c : Int32) : md a b c = md a c b := i32_eq (by rw [md_I, md_I, mid_sw])
