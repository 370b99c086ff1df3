/-! rows of the class alone, as in whole -/
theorem st2_eq (σ : TS) (k j : Nat) (v : Int32) : st2 σ k j v k j = v := by
  rw [st2_at]
  exact pk_us
theorem st2_off (σ : TS) {k j a b : Nat} (v : Int32) (h : ¬ (a = k ∧ b = j)) : st2 σ k j v a b = σ a b := by
  by_cases hk : a = k
  · subst hk
    rw [st2_at]
    exact pk_un (fun hb => h ⟨rfl, hb⟩)
  · rw [st2_ne _ _ _ hk]
theorem i32_hi (x : Int32) : x.toInt ≤ 2147483647 := by
  have h := Int32.toInt_lt x
  omega
theorem i32_eq {x y : Int32} (h : x.toInt = y.toInt) : x = y := Int32.toInt_inj.mp h
theorem i32_nI {x : Int32} {n : Nat} (h0 : 0 ≤ x.toInt) (h1 : x.toInt ≤ n) : ∃ j : Nat, j ≤ n ∧ x = nI j := by
  have hx := i32_hi x
  refine ⟨x.toInt.toNat, by omega, i32_eq ?_⟩
  rw [nI_toInt (by omega)]
  omega
theorem vin_nI {j n : Nat} (h : j < n) (hn : n < 2 ^ 31) : vin (nI j) n = true := by
  unfold vin
  rw [nI_clamp (by omega)]
  simp only [Bool.and_eq_true, decide_eq_true_eq]
  exact ⟨nI_pos (by omega), h⟩
def mid (a b c : Int) : Int := max (min a b) (min (max a b) c)
theorem fb_rng (x : Int32) : -2147483648 ≤ x.toInt ∧ x.toInt < 2147483648 := by
  have h1 := Int32.le_toInt x
  have h2 := Int32.toInt_lt x
  omega
theorem fb_bmod {z : Int} (h1 : -2147483648 ≤ z) (h2 : z < 2147483648) : z.bmod (2 ^ 32) = z := by
  rw [Int.bmod_eq_of_le (by omega) (by omega)]
theorem fb_addI {x y : Int32} (h1 : -2147483648 ≤ x.toInt + y.toInt) (h2 : x.toInt + y.toInt < 2147483648) : (x + y).toInt = x.toInt + y.toInt := by
  rw [Int32.toInt_add, fb_bmod h1 h2]
theorem fb_subI {x y : Int32} (h1 : -2147483648 ≤ x.toInt - y.toInt) (h2 : x.toInt - y.toInt < 2147483648) : (x - y).toInt = x.toInt - y.toInt := by
  rw [Int32.toInt_sub, fb_bmod h1 h2]
theorem fb_mulI {x y : Int32} (h1 : -2147483648 ≤ x.toInt * y.toInt) (h2 : x.toInt * y.toInt < 2147483648) : (x * y).toInt = x.toInt * y.toInt := by
  rw [Int32.toInt_mul, fb_bmod h1 h2]
theorem fb_short {x : Int32} (h1 : -32768 ≤ x.toInt) (h2 : x.toInt < 32768) : x.toInt16.toInt32 = x := by
  apply Int32.toInt_inj.1
  rw [Int16.toInt_toInt32, Int32.toInt_toInt16, Int.bmod_eq_of_le (by omega) (by omega)]
theorem fb_short_rng (x : Int32) : -32768 ≤ x.toInt16.toInt32.toInt ∧ x.toInt16.toInt32.toInt < 32768 := by
  rw [Int16.toInt_toInt32]
  have h1 := Int16.le_toInt x.toInt16
  have h2 := Int16.toInt_lt x.toInt16
  omega
theorem fa_and (a b : Nat) : nI a &&& nI b = nI (a &&& b) := by
  apply Int32.toBitVec_inj.1
  show BitVec.ofNat 32 a &&& BitVec.ofNat 32 b = BitVec.ofNat 32 (a &&& b)
  apply BitVec.eq_of_getLsbD_eq
  intro i hi
  simp [hi]
theorem nx_xor (a b : Nat) : nI a ^^^ nI b = nI (a ^^^ b) := by
  apply Int32.toBitVec_inj.1
  show BitVec.ofNat 32 a ^^^ BitVec.ofNat 32 b = BitVec.ofNat 32 (a ^^^ b)
  apply BitVec.eq_of_getLsbD_eq
  intro i hi
  simp [hi]
theorem s_l : ∀ n, n < 32 → ((nI n &&& 31).toBitVec.smod 32).toNat = n := by decide +kernel
theorem m6_nI (a : Nat) : 6 * nI a = nI (6 * a) := pk_mul 6 a
theorem nI_r18 {a : Nat} (h : a < 2 ^ 31) : nI a - nI a / 18 * 18 = nI (a % 18) := pk_rem (d := 18) h (by decide) (by decide)
theorem nI_r30 {a : Nat} (h : a < 2 ^ 31) : nI a - nI a / 30 * 30 = nI (a % 30) := pk_rem (d := 30) h (by decide) (by decide)
theorem fm_nI {a b : Nat} (σ : TS) (ha : a < 2 ^ 31) (h0 : 0 < b) (hb : b < 2 ^ 31) (hz : nzk (nI b) = true) : sJ9_floorMod_7cf53 (nI a) (nI b) σ = some (nI (a % b), σ) := by
  have h2 : a ^^^ b < 2 ^ 31 := Nat.xor_lt_two_pow ha hb
  unfold sJ9_floorMod_7cf53 sJ9_floorMod_7cf53_0 sJ9_floorMod_7cf53_18
  rw [nx_xor, if_pos hz, if_pos (nI_pos' (by omega)), pk_rem ha h0 hb]
theorem fm_18 {a : Nat} (σ : TS) (ha : a < 2 ^ 31) : sJ9_floorMod_7cf53 (nI a) (18 : Int32) σ = some (nI (a % 18), σ) := fm_nI (b := 18) σ ha (by decide) (by decide) (by decide)
theorem fm_30 {a : Nat} (σ : TS) (ha : a < 2 ^ 31) : sJ9_floorMod_7cf53 (nI a) (30 : Int32) σ = some (nI (a % 30), σ) := fm_nI (b := 30) σ ha (by decide) (by decide) (by decide)
theorem lt_iff (x y : Int32) : x < y ↔ x.toInt < y.toInt := Int32.lt_iff_toInt_lt
theorem le_iff (x y : Int32) : x ≤ y ↔ x.toInt ≤ y.toInt := Int32.le_iff_toInt_le
theorem i32_z {x : Int32} (h0 : 0 ≤ x.toInt) (h1 : x.toInt ≤ 1) : x = 0 ∨ x = 1 := by
  rcases (show x.toInt = 0 ∨ x.toInt = 1 by omega) with h | h
  · exact Or.inl (i32_eq (h.trans rfl))
  · exact Or.inr (i32_eq (h.trans rfl))
theorem st2_nj (σ : TS) {k j b : Nat} (v : Int32) (h : b ≠ j) : st2 σ k j v k b = σ k b := st2_off σ v (fun hb => h hb.2)
theorem st2_same {σ : TS} {k j : Nat} {v : Int32} (h : σ k j = v) : st2 σ k j v = σ := by
  funext a b
  by_cases hab : a = k ∧ b = j
  · obtain ⟨rfl, rfl⟩ := hab
    rw [st2_eq, h]
  · rw [st2_off _ _ hab]
theorem st2_twice (σ : TS) (k j : Nat) (v w : Int32) : st2 (st2 σ k j v) k j w = st2 σ k j w := by
  funext a b
  by_cases hab : a = k ∧ b = j
  · obtain ⟨rfl, rfl⟩ := hab
    rw [st2_eq, st2_eq]
  · rw [st2_off _ _ hab, st2_off _ _ hab, st2_off _ _ hab]
theorem st2_comm (σ : TS) {k j a b : Nat} (v w : Int32) (h : ¬ (k = a ∧ j = b)) : st2 (st2 σ k j v) a b w = st2 (st2 σ a b w) k j v := by
  funext c d
  by_cases h1 : c = k ∧ d = j
  · obtain ⟨rfl, rfl⟩ := h1
    rw [st2_off _ _ h, st2_eq, st2_eq]
  · by_cases h2 : c = a ∧ d = b
    · obtain ⟨rfl, rfl⟩ := h2
      rw [st2_eq, st2_off _ _ h1, st2_eq]
    · rw [st2_off _ _ h2, st2_off _ _ h1, st2_off _ _ h1, st2_off _ _ h2]
def bc1 (x : Int32) : Int32 := x - (((x.toUInt32 >>> ((1 : Int32).toUInt32 &&& Int32.toUInt32 31)).toInt32) &&& (1431655765 : Int32))
def bc2 (x : Int32) : Int32 := (x &&& (858993459 : Int32)) + (((x.toUInt32 >>> ((2 : Int32).toUInt32 &&& Int32.toUInt32 31)).toInt32) &&& (858993459 : Int32))
def bc3 (x : Int32) : Int32 := (x + ((x.toUInt32 >>> ((4 : Int32).toUInt32 &&& Int32.toUInt32 31)).toInt32)) &&& (252645135 : Int32)
def bc4 (x : Int32) : Int32 := x + ((x.toUInt32 >>> ((8 : Int32).toUInt32 &&& Int32.toUInt32 31)).toInt32)
def bc5 (x : Int32) : Int32 := x + ((x.toUInt32 >>> ((16 : Int32).toUInt32 &&& Int32.toUInt32 31)).toInt32)
theorem bc_form (x : Int32) (σ : TS) : sJ6_bitCount_0f7a4 x σ = some (bc5 (bc4 (bc3 (bc2 (bc1 x)))) &&& (63 : Int32), σ) := rfl
def bcN (n : Nat) : Nat :=
  let a := n - ((n / 2) &&& 1431655765)
  let b := (a &&& 858993459) + ((a / 4) &&& 858993459)
  let c := (b + b / 16) &&& 252645135
  let d := c + c / 256
  let e := d + d / 65536
  e &&& 63
theorem bc1_N {n : Nat} (h : n < 65536) : bc1 (nI n) = nI (n - ((n / 2) &&& 1431655765)) := by
  unfold bc1
  rw [pk_ushrN (by omega) 1 1 rfl, show (1431655765 : Int32) = nI 1431655765 from rfl, fa_and]
  exact pk_sub (Nat.le_trans Nat.and_le_left (Nat.div_le_self _ _))
theorem bc2_N {n : Nat} (h : n < 65536) : bc2 (nI n) = nI ((n &&& 858993459) + ((n / 4) &&& 858993459)) := by
  unfold bc2
  rw [pk_ushrN (by omega) 2 2 rfl, show (858993459 : Int32) = nI 858993459 from rfl, fa_and, fa_and, nI_add]
theorem bc3_N {n : Nat} (h : n < 131072) : bc3 (nI n) = nI ((n + n / 16) &&& 252645135) := by
  unfold bc3
  rw [pk_ushrN (by omega) 4 4 rfl, nI_add, show (252645135 : Int32) = nI 252645135 from rfl, fa_and]
theorem bc4_N {n : Nat} (h : n < 1000000) : bc4 (nI n) = nI (n + n / 256) := by
  unfold bc4
  rw [pk_ushrN (by omega) 8 8 rfl, nI_add]
theorem bc5_N {n : Nat} (h : n < 2000000) : bc5 (nI n) = nI (n + n / 65536) := by
  unfold bc5
  rw [pk_ushrN (by omega) 16 16 rfl, nI_add]
theorem bc_N {n : Nat} (h : n < 65536) (σ : TS) : sJ6_bitCount_0f7a4 (nI n) σ = some (nI (bcN n), σ) := by
  have h1 : n - ((n / 2) &&& 1431655765) < 65536 := by omega
  have h2 : ∀ a : Nat, a < 65536 → (a &&& 858993459) + ((a / 4) &&& 858993459) < 131072 := fun a ha => by
    have e1 : a &&& 858993459 ≤ a := Nat.and_le_left
    have e2 : (a / 4) &&& 858993459 ≤ a / 4 := Nat.and_le_left
    omega
  have h3 : ∀ a : Nat, a < 131072 → (a + a / 16) &&& 252645135 < 1000000 := fun a ha => by
    have e1 : (a + a / 16) &&& 252645135 ≤ a + a / 16 := Nat.and_le_left
    omega
  rw [bc_form, bc1_N h, bc2_N h1, bc3_N (h2 _ h1), bc4_N (h3 _ (h2 _ h1)), bc5_N (by have := h3 _ (h2 _ h1); omega), show (63 : Int32) = nI 63 from rfl, fa_and]
  rfl
def onK (n : Nat) : Nat → Nat → Nat
  | 0, _ => 0
  | d + 1, k => (n / 2 ^ k) % 2 + onK n d (k + 1)
noncomputable def allN (n : Nat) (f : Nat → Bool) : Bool := Nat.rec true (fun i ih => and (f i) ih) n
theorem allN_at {f : Nat → Bool} : ∀ {n : Nat}, allN n f = true → ∀ i, i < n → f i = true
  | 0, _, i, hi => by omega
  | n + 1, h, i, hi => by
    have h' : (f n && allN n f) = true := h
    rw [Bool.and_eq_true] at h'
    rcases Nat.lt_or_ge i n with h1 | h1
    · exact allN_at h'.2 i h1
    · rw [show i = n by omega]
      exact h'.1
def bq1 (n : Nat) : Nat := Nat.sub n (Nat.land (Nat.div n 2) 1431655765)
def bq2 (n : Nat) : Nat := Nat.add (Nat.land n 858993459) (Nat.land (Nat.div n 4) 858993459)
def bq3 (n : Nat) : Nat := Nat.land (Nat.add n (Nat.div n 16)) 252645135
def bq4 (n : Nat) : Nat := Nat.add n (Nat.div n 256)
def bq5 (n : Nat) : Nat := Nat.land (Nat.add n (Nat.div n 65536)) 63
def bq (n : Nat) : Nat := bq5 (bq4 (bq3 (bq2 (bq1 n))))
def oq (n : Nat) : Nat := Nat.add (Nat.mod n 2) (Nat.add (Nat.mod (Nat.div n 2) 2) (Nat.add (Nat.mod (Nat.div n 4) 2) (Nat.add (Nat.mod (Nat.div n 8) 2) (Nat.add (Nat.mod (Nat.div n 16) 2) (Nat.add (Nat.mod (Nat.div n 32) 2) (Nat.add (Nat.mod (Nat.div n 64) 2) (Nat.add (Nat.mod (Nat.div n 128) 2) (Nat.add (Nat.mod (Nat.div n 256) 2) (Nat.add (Nat.mod (Nat.div n 512) 2) (Nat.add (Nat.mod (Nat.div n 1024) 2) (Nat.add (Nat.mod (Nat.div n 2048) 2) (Nat.add (Nat.mod (Nat.div n 4096) 2) (Nat.add (Nat.mod (Nat.div n 8192) 2) (Nat.add (Nat.mod (Nat.div n 16384) 2) (Nat.mod (Nat.div n 32768) 2)))))))))))))))
theorem bq_bc (n : Nat) : bcN n = bq n := rfl
theorem oq_on (n : Nat) : onK n 16 0 = oq n := by
  show n / 2 ^ 0 % 2 + (n / 2 ^ 1 % 2 + (n / 2 ^ 2 % 2 + (n / 2 ^ 3 % 2 + (n / 2 ^ 4 % 2 + (n / 2 ^ 5 % 2 + (n / 2 ^ 6 % 2 + (n / 2 ^ 7 % 2 + (n / 2 ^ 8 % 2 + (n / 2 ^ 9 % 2 + (n / 2 ^ 10 % 2 + (n / 2 ^ 11 % 2 + (n / 2 ^ 12 % 2 + (n / 2 ^ 13 % 2 + (n / 2 ^ 14 % 2 + (n / 2 ^ 15 % 2 + 0))))))))))))))) = _
  rw [Nat.pow_zero, Nat.div_one, Nat.add_zero]
  rfl
def bcT (n : Nat) : Bool := and (Nat.beq (bq n) (oq n)) (and (Nat.ble (bq n) 16) (or (Nat.beq n 0) (Nat.ble 1 (bq n))))
theorem bc_p0 : allN 4 (fun h => allN 256 (fun l => bcT (Nat.add (Nat.add 0 (Nat.mul 256 h)) l))) = true := by decide +kernel
theorem bc_p1 : allN 4 (fun h => allN 256 (fun l => bcT (Nat.add (Nat.add 1024 (Nat.mul 256 h)) l))) = true := by decide +kernel
theorem bc_p2 : allN 4 (fun h => allN 256 (fun l => bcT (Nat.add (Nat.add 2048 (Nat.mul 256 h)) l))) = true := by decide +kernel
theorem bc_p3 : allN 4 (fun h => allN 256 (fun l => bcT (Nat.add (Nat.add 3072 (Nat.mul 256 h)) l))) = true := by decide +kernel
theorem bc_p4 : allN 4 (fun h => allN 256 (fun l => bcT (Nat.add (Nat.add 4096 (Nat.mul 256 h)) l))) = true := by decide +kernel
theorem bc_p5 : allN 4 (fun h => allN 256 (fun l => bcT (Nat.add (Nat.add 5120 (Nat.mul 256 h)) l))) = true := by decide +kernel
theorem bc_p6 : allN 4 (fun h => allN 256 (fun l => bcT (Nat.add (Nat.add 6144 (Nat.mul 256 h)) l))) = true := by decide +kernel
theorem bc_p7 : allN 4 (fun h => allN 256 (fun l => bcT (Nat.add (Nat.add 7168 (Nat.mul 256 h)) l))) = true := by decide +kernel
theorem bc_p8 : allN 4 (fun h => allN 256 (fun l => bcT (Nat.add (Nat.add 8192 (Nat.mul 256 h)) l))) = true := by decide +kernel
theorem bc_p9 : allN 4 (fun h => allN 256 (fun l => bcT (Nat.add (Nat.add 9216 (Nat.mul 256 h)) l))) = true := by decide +kernel
theorem bc_p10 : allN 4 (fun h => allN 256 (fun l => bcT (Nat.add (Nat.add 10240 (Nat.mul 256 h)) l))) = true := by decide +kernel
theorem bc_p11 : allN 4 (fun h => allN 256 (fun l => bcT (Nat.add (Nat.add 11264 (Nat.mul 256 h)) l))) = true := by decide +kernel
theorem bc_p12 : allN 4 (fun h => allN 256 (fun l => bcT (Nat.add (Nat.add 12288 (Nat.mul 256 h)) l))) = true := by decide +kernel
theorem bc_p13 : allN 4 (fun h => allN 256 (fun l => bcT (Nat.add (Nat.add 13312 (Nat.mul 256 h)) l))) = true := by decide +kernel
theorem bc_p14 : allN 4 (fun h => allN 256 (fun l => bcT (Nat.add (Nat.add 14336 (Nat.mul 256 h)) l))) = true := by decide +kernel
theorem bc_p15 : allN 4 (fun h => allN 256 (fun l => bcT (Nat.add (Nat.add 15360 (Nat.mul 256 h)) l))) = true := by decide +kernel
theorem bc_p16 : allN 4 (fun h => allN 256 (fun l => bcT (Nat.add (Nat.add 16384 (Nat.mul 256 h)) l))) = true := by decide +kernel
theorem bc_p17 : allN 4 (fun h => allN 256 (fun l => bcT (Nat.add (Nat.add 17408 (Nat.mul 256 h)) l))) = true := by decide +kernel
theorem bc_p18 : allN 4 (fun h => allN 256 (fun l => bcT (Nat.add (Nat.add 18432 (Nat.mul 256 h)) l))) = true := by decide +kernel
theorem bc_p19 : allN 4 (fun h => allN 256 (fun l => bcT (Nat.add (Nat.add 19456 (Nat.mul 256 h)) l))) = true := by decide +kernel
theorem bc_p20 : allN 4 (fun h => allN 256 (fun l => bcT (Nat.add (Nat.add 20480 (Nat.mul 256 h)) l))) = true := by decide +kernel
theorem bc_p21 : allN 4 (fun h => allN 256 (fun l => bcT (Nat.add (Nat.add 21504 (Nat.mul 256 h)) l))) = true := by decide +kernel
theorem bc_p22 : allN 4 (fun h => allN 256 (fun l => bcT (Nat.add (Nat.add 22528 (Nat.mul 256 h)) l))) = true := by decide +kernel
theorem bc_p23 : allN 4 (fun h => allN 256 (fun l => bcT (Nat.add (Nat.add 23552 (Nat.mul 256 h)) l))) = true := by decide +kernel
theorem bc_p24 : allN 4 (fun h => allN 256 (fun l => bcT (Nat.add (Nat.add 24576 (Nat.mul 256 h)) l))) = true := by decide +kernel
theorem bc_p25 : allN 4 (fun h => allN 256 (fun l => bcT (Nat.add (Nat.add 25600 (Nat.mul 256 h)) l))) = true := by decide +kernel
theorem bc_p26 : allN 4 (fun h => allN 256 (fun l => bcT (Nat.add (Nat.add 26624 (Nat.mul 256 h)) l))) = true := by decide +kernel
theorem bc_p27 : allN 4 (fun h => allN 256 (fun l => bcT (Nat.add (Nat.add 27648 (Nat.mul 256 h)) l))) = true := by decide +kernel
theorem bc_p28 : allN 4 (fun h => allN 256 (fun l => bcT (Nat.add (Nat.add 28672 (Nat.mul 256 h)) l))) = true := by decide +kernel
theorem bc_p29 : allN 4 (fun h => allN 256 (fun l => bcT (Nat.add (Nat.add 29696 (Nat.mul 256 h)) l))) = true := by decide +kernel
theorem bc_p30 : allN 4 (fun h => allN 256 (fun l => bcT (Nat.add (Nat.add 30720 (Nat.mul 256 h)) l))) = true := by decide +kernel
theorem bc_p31 : allN 4 (fun h => allN 256 (fun l => bcT (Nat.add (Nat.add 31744 (Nat.mul 256 h)) l))) = true := by decide +kernel
theorem bc_p32 : allN 4 (fun h => allN 256 (fun l => bcT (Nat.add (Nat.add 32768 (Nat.mul 256 h)) l))) = true := by decide +kernel
theorem bc_p33 : allN 4 (fun h => allN 256 (fun l => bcT (Nat.add (Nat.add 33792 (Nat.mul 256 h)) l))) = true := by decide +kernel
theorem bc_p34 : allN 4 (fun h => allN 256 (fun l => bcT (Nat.add (Nat.add 34816 (Nat.mul 256 h)) l))) = true := by decide +kernel
theorem bc_p35 : allN 4 (fun h => allN 256 (fun l => bcT (Nat.add (Nat.add 35840 (Nat.mul 256 h)) l))) = true := by decide +kernel
theorem bc_p36 : allN 4 (fun h => allN 256 (fun l => bcT (Nat.add (Nat.add 36864 (Nat.mul 256 h)) l))) = true := by decide +kernel
theorem bc_p37 : allN 4 (fun h => allN 256 (fun l => bcT (Nat.add (Nat.add 37888 (Nat.mul 256 h)) l))) = true := by decide +kernel
theorem bc_p38 : allN 4 (fun h => allN 256 (fun l => bcT (Nat.add (Nat.add 38912 (Nat.mul 256 h)) l))) = true := by decide +kernel
theorem bc_p39 : allN 4 (fun h => allN 256 (fun l => bcT (Nat.add (Nat.add 39936 (Nat.mul 256 h)) l))) = true := by decide +kernel
theorem bc_p40 : allN 4 (fun h => allN 256 (fun l => bcT (Nat.add (Nat.add 40960 (Nat.mul 256 h)) l))) = true := by decide +kernel
theorem bc_p41 : allN 4 (fun h => allN 256 (fun l => bcT (Nat.add (Nat.add 41984 (Nat.mul 256 h)) l))) = true := by decide +kernel
theorem bc_p42 : allN 4 (fun h => allN 256 (fun l => bcT (Nat.add (Nat.add 43008 (Nat.mul 256 h)) l))) = true := by decide +kernel
theorem bc_p43 : allN 4 (fun h => allN 256 (fun l => bcT (Nat.add (Nat.add 44032 (Nat.mul 256 h)) l))) = true := by decide +kernel
theorem bc_p44 : allN 4 (fun h => allN 256 (fun l => bcT (Nat.add (Nat.add 45056 (Nat.mul 256 h)) l))) = true := by decide +kernel
theorem bc_p45 : allN 4 (fun h => allN 256 (fun l => bcT (Nat.add (Nat.add 46080 (Nat.mul 256 h)) l))) = true := by decide +kernel
theorem bc_p46 : allN 4 (fun h => allN 256 (fun l => bcT (Nat.add (Nat.add 47104 (Nat.mul 256 h)) l))) = true := by decide +kernel
theorem bc_p47 : allN 4 (fun h => allN 256 (fun l => bcT (Nat.add (Nat.add 48128 (Nat.mul 256 h)) l))) = true := by decide +kernel
theorem bc_p48 : allN 4 (fun h => allN 256 (fun l => bcT (Nat.add (Nat.add 49152 (Nat.mul 256 h)) l))) = true := by decide +kernel
theorem bc_p49 : allN 4 (fun h => allN 256 (fun l => bcT (Nat.add (Nat.add 50176 (Nat.mul 256 h)) l))) = true := by decide +kernel
theorem bc_p50 : allN 4 (fun h => allN 256 (fun l => bcT (Nat.add (Nat.add 51200 (Nat.mul 256 h)) l))) = true := by decide +kernel
theorem bc_p51 : allN 4 (fun h => allN 256 (fun l => bcT (Nat.add (Nat.add 52224 (Nat.mul 256 h)) l))) = true := by decide +kernel
theorem bc_p52 : allN 4 (fun h => allN 256 (fun l => bcT (Nat.add (Nat.add 53248 (Nat.mul 256 h)) l))) = true := by decide +kernel
theorem bc_p53 : allN 4 (fun h => allN 256 (fun l => bcT (Nat.add (Nat.add 54272 (Nat.mul 256 h)) l))) = true := by decide +kernel
theorem bc_p54 : allN 4 (fun h => allN 256 (fun l => bcT (Nat.add (Nat.add 55296 (Nat.mul 256 h)) l))) = true := by decide +kernel
theorem bc_p55 : allN 4 (fun h => allN 256 (fun l => bcT (Nat.add (Nat.add 56320 (Nat.mul 256 h)) l))) = true := by decide +kernel
theorem bc_p56 : allN 4 (fun h => allN 256 (fun l => bcT (Nat.add (Nat.add 57344 (Nat.mul 256 h)) l))) = true := by decide +kernel
theorem bc_p57 : allN 4 (fun h => allN 256 (fun l => bcT (Nat.add (Nat.add 58368 (Nat.mul 256 h)) l))) = true := by decide +kernel
theorem bc_p58 : allN 4 (fun h => allN 256 (fun l => bcT (Nat.add (Nat.add 59392 (Nat.mul 256 h)) l))) = true := by decide +kernel
theorem bc_p59 : allN 4 (fun h => allN 256 (fun l => bcT (Nat.add (Nat.add 60416 (Nat.mul 256 h)) l))) = true := by decide +kernel
theorem bc_p60 : allN 4 (fun h => allN 256 (fun l => bcT (Nat.add (Nat.add 61440 (Nat.mul 256 h)) l))) = true := by decide +kernel
theorem bc_p61 : allN 4 (fun h => allN 256 (fun l => bcT (Nat.add (Nat.add 62464 (Nat.mul 256 h)) l))) = true := by decide +kernel
theorem bc_p62 : allN 4 (fun h => allN 256 (fun l => bcT (Nat.add (Nat.add 63488 (Nat.mul 256 h)) l))) = true := by decide +kernel
theorem bc_p63 : allN 4 (fun h => allN 256 (fun l => bcT (Nat.add (Nat.add 64512 (Nat.mul 256 h)) l))) = true := by decide +kernel
theorem bc_pp {b : Nat} (h : allN 4 (fun h => allN 256 (fun l => bcT (Nat.add (Nat.add b (Nat.mul 256 h)) l))) = true) {n : Nat} (h1 : b ≤ n) (h2 : n < b + 1024) : bcT n = true := by
  have h3 := allN_at (allN_at h ((n - b) / 256) (by omega)) ((n - b) % 256) (by omega)
  have h4 : Nat.add (Nat.add b (Nat.mul 256 ((n - b) / 256))) ((n - b) % 256) = n := by
    show b + 256 * ((n - b) / 256) + (n - b) % 256 = n
    omega
  rw [h4] at h3
  exact h3
theorem bc_at' {n : Nat} (h : n < 65536) : bcT n = true := by
  rcases Nat.lt_or_ge n 32768 with g0_64 | g0_64
  · rcases Nat.lt_or_ge n 16384 with g0_32 | g0_32
    · rcases Nat.lt_or_ge n 8192 with g0_16 | g0_16
      · rcases Nat.lt_or_ge n 4096 with g0_8 | g0_8
        · rcases Nat.lt_or_ge n 2048 with g0_4 | g0_4
          · rcases Nat.lt_or_ge n 1024 with g0_2 | g0_2
            · exact bc_pp bc_p0 (by omega) (by omega)
            · exact bc_pp bc_p1 (by omega) (by omega)
          · rcases Nat.lt_or_ge n 3072 with g2_4 | g2_4
            · exact bc_pp bc_p2 (by omega) (by omega)
            · exact bc_pp bc_p3 (by omega) (by omega)
        · rcases Nat.lt_or_ge n 6144 with g4_8 | g4_8
          · rcases Nat.lt_or_ge n 5120 with g4_6 | g4_6
            · exact bc_pp bc_p4 (by omega) (by omega)
            · exact bc_pp bc_p5 (by omega) (by omega)
          · rcases Nat.lt_or_ge n 7168 with g6_8 | g6_8
            · exact bc_pp bc_p6 (by omega) (by omega)
            · exact bc_pp bc_p7 (by omega) (by omega)
      · rcases Nat.lt_or_ge n 12288 with g8_16 | g8_16
        · rcases Nat.lt_or_ge n 10240 with g8_12 | g8_12
          · rcases Nat.lt_or_ge n 9216 with g8_10 | g8_10
            · exact bc_pp bc_p8 (by omega) (by omega)
            · exact bc_pp bc_p9 (by omega) (by omega)
          · rcases Nat.lt_or_ge n 11264 with g10_12 | g10_12
            · exact bc_pp bc_p10 (by omega) (by omega)
            · exact bc_pp bc_p11 (by omega) (by omega)
        · rcases Nat.lt_or_ge n 14336 with g12_16 | g12_16
          · rcases Nat.lt_or_ge n 13312 with g12_14 | g12_14
            · exact bc_pp bc_p12 (by omega) (by omega)
            · exact bc_pp bc_p13 (by omega) (by omega)
          · rcases Nat.lt_or_ge n 15360 with g14_16 | g14_16
            · exact bc_pp bc_p14 (by omega) (by omega)
            · exact bc_pp bc_p15 (by omega) (by omega)
    · rcases Nat.lt_or_ge n 24576 with g16_32 | g16_32
      · rcases Nat.lt_or_ge n 20480 with g16_24 | g16_24
        · rcases Nat.lt_or_ge n 18432 with g16_20 | g16_20
          · rcases Nat.lt_or_ge n 17408 with g16_18 | g16_18
            · exact bc_pp bc_p16 (by omega) (by omega)
            · exact bc_pp bc_p17 (by omega) (by omega)
          · rcases Nat.lt_or_ge n 19456 with g18_20 | g18_20
            · exact bc_pp bc_p18 (by omega) (by omega)
            · exact bc_pp bc_p19 (by omega) (by omega)
        · rcases Nat.lt_or_ge n 22528 with g20_24 | g20_24
          · rcases Nat.lt_or_ge n 21504 with g20_22 | g20_22
            · exact bc_pp bc_p20 (by omega) (by omega)
            · exact bc_pp bc_p21 (by omega) (by omega)
          · rcases Nat.lt_or_ge n 23552 with g22_24 | g22_24
            · exact bc_pp bc_p22 (by omega) (by omega)
            · exact bc_pp bc_p23 (by omega) (by omega)
      · rcases Nat.lt_or_ge n 28672 with g24_32 | g24_32
        · rcases Nat.lt_or_ge n 26624 with g24_28 | g24_28
          · rcases Nat.lt_or_ge n 25600 with g24_26 | g24_26
            · exact bc_pp bc_p24 (by omega) (by omega)
            · exact bc_pp bc_p25 (by omega) (by omega)
          · rcases Nat.lt_or_ge n 27648 with g26_28 | g26_28
            · exact bc_pp bc_p26 (by omega) (by omega)
            · exact bc_pp bc_p27 (by omega) (by omega)
        · rcases Nat.lt_or_ge n 30720 with g28_32 | g28_32
          · rcases Nat.lt_or_ge n 29696 with g28_30 | g28_30
            · exact bc_pp bc_p28 (by omega) (by omega)
            · exact bc_pp bc_p29 (by omega) (by omega)
          · rcases Nat.lt_or_ge n 31744 with g30_32 | g30_32
            · exact bc_pp bc_p30 (by omega) (by omega)
            · exact bc_pp bc_p31 (by omega) (by omega)
  · rcases Nat.lt_or_ge n 49152 with g32_64 | g32_64
    · rcases Nat.lt_or_ge n 40960 with g32_48 | g32_48
      · rcases Nat.lt_or_ge n 36864 with g32_40 | g32_40
        · rcases Nat.lt_or_ge n 34816 with g32_36 | g32_36
          · rcases Nat.lt_or_ge n 33792 with g32_34 | g32_34
            · exact bc_pp bc_p32 (by omega) (by omega)
            · exact bc_pp bc_p33 (by omega) (by omega)
          · rcases Nat.lt_or_ge n 35840 with g34_36 | g34_36
            · exact bc_pp bc_p34 (by omega) (by omega)
            · exact bc_pp bc_p35 (by omega) (by omega)
        · rcases Nat.lt_or_ge n 38912 with g36_40 | g36_40
          · rcases Nat.lt_or_ge n 37888 with g36_38 | g36_38
            · exact bc_pp bc_p36 (by omega) (by omega)
            · exact bc_pp bc_p37 (by omega) (by omega)
          · rcases Nat.lt_or_ge n 39936 with g38_40 | g38_40
            · exact bc_pp bc_p38 (by omega) (by omega)
            · exact bc_pp bc_p39 (by omega) (by omega)
      · rcases Nat.lt_or_ge n 45056 with g40_48 | g40_48
        · rcases Nat.lt_or_ge n 43008 with g40_44 | g40_44
          · rcases Nat.lt_or_ge n 41984 with g40_42 | g40_42
            · exact bc_pp bc_p40 (by omega) (by omega)
            · exact bc_pp bc_p41 (by omega) (by omega)
          · rcases Nat.lt_or_ge n 44032 with g42_44 | g42_44
            · exact bc_pp bc_p42 (by omega) (by omega)
            · exact bc_pp bc_p43 (by omega) (by omega)
        · rcases Nat.lt_or_ge n 47104 with g44_48 | g44_48
          · rcases Nat.lt_or_ge n 46080 with g44_46 | g44_46
            · exact bc_pp bc_p44 (by omega) (by omega)
            · exact bc_pp bc_p45 (by omega) (by omega)
          · rcases Nat.lt_or_ge n 48128 with g46_48 | g46_48
            · exact bc_pp bc_p46 (by omega) (by omega)
            · exact bc_pp bc_p47 (by omega) (by omega)
    · rcases Nat.lt_or_ge n 57344 with g48_64 | g48_64
      · rcases Nat.lt_or_ge n 53248 with g48_56 | g48_56
        · rcases Nat.lt_or_ge n 51200 with g48_52 | g48_52
          · rcases Nat.lt_or_ge n 50176 with g48_50 | g48_50
            · exact bc_pp bc_p48 (by omega) (by omega)
            · exact bc_pp bc_p49 (by omega) (by omega)
          · rcases Nat.lt_or_ge n 52224 with g50_52 | g50_52
            · exact bc_pp bc_p50 (by omega) (by omega)
            · exact bc_pp bc_p51 (by omega) (by omega)
        · rcases Nat.lt_or_ge n 55296 with g52_56 | g52_56
          · rcases Nat.lt_or_ge n 54272 with g52_54 | g52_54
            · exact bc_pp bc_p52 (by omega) (by omega)
            · exact bc_pp bc_p53 (by omega) (by omega)
          · rcases Nat.lt_or_ge n 56320 with g54_56 | g54_56
            · exact bc_pp bc_p54 (by omega) (by omega)
            · exact bc_pp bc_p55 (by omega) (by omega)
      · rcases Nat.lt_or_ge n 61440 with g56_64 | g56_64
        · rcases Nat.lt_or_ge n 59392 with g56_60 | g56_60
          · rcases Nat.lt_or_ge n 58368 with g56_58 | g56_58
            · exact bc_pp bc_p56 (by omega) (by omega)
            · exact bc_pp bc_p57 (by omega) (by omega)
          · rcases Nat.lt_or_ge n 60416 with g58_60 | g58_60
            · exact bc_pp bc_p58 (by omega) (by omega)
            · exact bc_pp bc_p59 (by omega) (by omega)
        · rcases Nat.lt_or_ge n 63488 with g60_64 | g60_64
          · rcases Nat.lt_or_ge n 62464 with g60_62 | g60_62
            · exact bc_pp bc_p60 (by omega) (by omega)
            · exact bc_pp bc_p61 (by omega) (by omega)
          · rcases Nat.lt_or_ge n 64512 with g62_64 | g62_64
            · exact bc_pp bc_p62 (by omega) (by omega)
            · exact bc_pp bc_p63 (by omega) (by omega)
theorem bc_at {n : Nat} (h : n < 65536) : bcN n = onK n 16 0 ∧ bcN n ≤ 16 ∧ (n = 0 ∨ 1 ≤ bcN n) := by
  have h1 := bc_at' h
  unfold bcT at h1
  rw [Bool.and_eq_true, Bool.and_eq_true, Bool.or_eq_true] at h1
  obtain ⟨a, b, c⟩ := h1
  rw [bq_bc, oq_on]
  refine ⟨Nat.eq_of_beq_eq_true a, Nat.le_of_ble_eq_true b, ?_⟩
  rcases c with c | c
  · exact Or.inl (Nat.eq_of_beq_eq_true c)
  · exact Or.inr (Nat.le_of_ble_eq_true c)
def cntb (x : Int32) : Nat := bcN x.toNatClampNeg
theorem i32_16 {x : Int32} (h0 : 0 ≤ x.toInt) (h1 : x.toInt ≤ 65535) : ∃ n : Nat, n < 65536 ∧ x = nI n ∧ x.toNatClampNeg = n := by
  obtain ⟨n, hn, rfl⟩ := i32_nI (n := 65535) h0 h1
  exact ⟨n, by omega, rfl, nI_clamp (by omega)⟩
theorem cnt_T {x : Int32} (h : 0 ≤ x.toInt ∧ x.toInt ≤ 65535) (σ : TS) : sJ6_bitCount_0f7a4 x σ = some (nI (cntb x), σ) := by
  obtain ⟨n, hn, rfl, hc⟩ := i32_16 h.1 h.2
  rw [bc_N hn]
  unfold cntb
  rw [hc]
theorem cnt_16 {x : Int32} (h : 0 ≤ x.toInt ∧ x.toInt ≤ 65535) : cntb x ≤ 16 := by
  obtain ⟨n, hn, rfl, hc⟩ := i32_16 h.1 h.2
  unfold cntb
  rw [hc]
  exact (bc_at hn).2.1
theorem cnt_0 {x : Int32} (h : 0 ≤ x.toInt ∧ x.toInt ≤ 65535) (h0 : cntb x = 0) : x = 0 := by
  obtain ⟨n, hn, rfl, hc⟩ := i32_16 h.1 h.2
  unfold cntb at h0
  rw [hc] at h0
  rcases (bc_at hn).2.2 with h1 | h1
  · rw [h1]
    rfl
  · omega
theorem cnt_z : cntb 0 = 0 := by decide +kernel
theorem bit_N {b : Nat} (h : b < 16) : (1 : Int32) <<< (nI b &&& 31) = nI (2 ^ b) := by
  have h1 := pk_shlN (n := 1) (nI b &&& 31) b (s_l b (by omega)) (by
    have : 2 ^ b ≤ 2 ^ 15 := Nat.pow_le_pow_right (by decide) (by omega)
    omega)
  rw [Nat.one_mul] at h1
  exact h1
theorem turn_16 {x : Int32} (h : 0 ≤ x.toInt ∧ x.toInt ≤ 65535) {b : Nat} (hb : b < 16) : 0 ≤ (x ^^^ ((1 : Int32) <<< (nI b &&& 31))).toInt ∧ (x ^^^ ((1 : Int32) <<< (nI b &&& 31))).toInt ≤ 65535 := by
  obtain ⟨n, hn, rfl, hc⟩ := i32_16 h.1 h.2
  have h2 : 2 ^ b < 2 ^ 16 := Nat.pow_lt_pow_right (by decide) hb
  have h3 : n ^^^ 2 ^ b < 2 ^ 16 := Nat.xor_lt_two_pow hn h2
  rw [bit_N hb, nx_xor, nI_toInt (by omega)]
  omega
theorem ite_lt_max (a b : Int32) : (if a < b then b else a).toInt = max a.toInt b.toInt := by
  by_cases h : a < b
  · rw [if_pos h, Int.max_eq_right (by rw [lt_iff] at h; omega)]
  · rw [if_neg h, Int.max_eq_left (by rw [lt_iff] at h; omega)]
theorem ite_lt_min (a b : Int32) : (if b < a then b else a).toInt = min a.toInt b.toInt := by
  by_cases h : b < a
  · rw [if_pos h, Int.min_eq_right (by rw [lt_iff] at h; omega)]
  · rw [if_neg h, Int.min_eq_left (by rw [lt_iff] at h; omega)]
def gr (a b : Int32) : Int32 := if a ≤ b then b else a
def ls (a b : Int32) : Int32 := if b ≤ a then b else a
theorem gr_I (a b : Int32) : (gr a b).toInt = max a.toInt b.toInt := by
  unfold gr
  by_cases h : a ≤ b
  · rw [if_pos h, Int.max_eq_right ((le_iff _ _).mp h)]
  · rw [if_neg h, Int.max_eq_left (by rw [le_iff] at h; omega)]
theorem ls_I (a b : Int32) : (ls a b).toInt = min a.toInt b.toInt := by
  unfold ls
  by_cases h : b ≤ a
  · rw [if_pos h, Int.min_eq_right ((le_iff _ _).mp h)]
  · rw [if_neg h, Int.min_eq_left (by rw [le_iff] at h; omega)]
def md (a b c : Int32) : Int32 := gr (ls a b) (ls (gr a b) c)
theorem md_I (a b c : Int32) : (md a b c).toInt = mid a.toInt b.toInt c.toInt := by
  unfold md mid
  rw [gr_I, ls_I, ls_I, gr_I]
theorem t_middle (a b c : Int32) (σ : TS) : sX5_middle a b c σ = some (md a b c, σ) := by
  unfold sX5_middle sX5_middle_0
  congr 2
  apply i32_eq
  rw [md_I, ite_lt_max, ite_lt_min, ite_lt_min, ite_lt_max]
  rfl
theorem e10 : ((1 : Int32) = 0) = False := by decide
def stkT (σ : TS) (c r : Nat) (x : Int32) : Int32 := (if nI r = σ (15 + 6 * c) 5 then (if σ (15 + 6 * c) 10 = 0 then x &&& (((1 : Int32) <<< (σ (15 + 6 * c) 9 &&& 31)) ^^^ (-1 : Int32)) else x ||| ((1 : Int32) <<< (σ (15 + 6 * c) 9 &&& 31))) else x).toInt16.toInt32
theorem t_change (σ : TS) (c : Nat) {r : Nat} (hr : r < 4) (x : Int32) : sX1_change c (nI r) x σ = some (0, st2 σ (20 + 6 * c) r (stkT σ c r x)) := by
  unfold sX1_change sX1_change_0 sX1_change_38 sX1_change_39 sX5_round sX5_round_0 sX1_change_48 stkT
  by_cases h1 : nI r = σ (15 + 6 * c) 5
  · by_cases h2 : σ (15 + 6 * c) 10 = 0
    · rw [if_pos h1, if_pos h2, if_pos h1, if_pos h2, Option.bind_some, if_pos (vin_nI hr (by decide)), nI_clamp (by omega)]
    · rw [if_pos h1, if_neg h2, if_pos h1, if_neg h2, Option.bind_some, if_pos (vin_nI hr (by decide)), nI_clamp (by omega)]
  · rw [if_neg h1, if_neg h1, Option.bind_some, if_pos (vin_nI hr (by decide)), nI_clamp (by omega)]
theorem nI_ne_m1 {r : Nat} (h : r < 2 ^ 31) : nI r ≠ -1 := fun h1 => by
  have h2 := congrArg Int32.toInt h1
  rw [nI_toInt h, show (-1 : Int32).toInt = -1 by decide] at h2
  omega
def tdd (c i : Nat) (σ : TS) : TS := st2 (st2 σ (18 + 6 * c) i 0) (16 + 6 * c) 2 (σ (16 + 6 * c) 2 + nI (cntb (σ (18 + 6 * c) i)))
theorem t_mend_ok {σ : TS} (c : Nat) {i : Nat} (hi : i < 18) (hb : 0 ≤ (σ (18 + 6 * c) i).toInt ∧ (σ (18 + 6 * c) i).toInt ≤ 65535) (hk : cntb (σ (18 + 6 * c) i) ≤ 1) : sX4_mend c (nI i) σ = some (1, tdd c i σ) := by
  unfold sX4_mend sX4_mend_0
  rw [if_pos (vin_nI hi (by decide)), nI_clamp (show i < 2 ^ 31 by omega), cnt_T hb, Option.bind_some]
  unfold sX4_mend_9 tdd
  rw [if_pos (show nI (cntb (σ (18 + 6 * c) i)) ≤ (1 : Int32) from nI_le (b := 1) hk (by decide)), if_pos (vin_nI hi (by decide)), nI_clamp (show i < 2 ^ 31 by omega), st2_ne σ i 0 (show 16 + 6 * c ≠ 18 + 6 * c by omega)]
theorem t_mend_bad {σ : TS} (c : Nat) {i : Nat} (hi : i < 18) (hb : 0 ≤ (σ (18 + 6 * c) i).toInt ∧ (σ (18 + 6 * c) i).toInt ≤ 65535) (hk : ¬ cntb (σ (18 + 6 * c) i) ≤ 1) : sX4_mend c (nI i) σ = some (0, σ) := by
  have h16 := cnt_16 hb
  unfold sX4_mend sX4_mend_0
  rw [if_pos (vin_nI hi (by decide)), nI_clamp (show i < 2 ^ 31 by omega), cnt_T hb, Option.bind_some]
  unfold sX4_mend_9
  rw [if_neg (show ¬ nI (cntb (σ (18 + 6 * c) i)) ≤ (1 : Int32) from nI_ge (a := 1) (by omega) (by omega))]
def tEff (c r m row t : Nat) (K nv : Int32) (σ : TS) : TS :=
  if K = 97 then st2 (st2 (st2 σ (15 + 6 * c) 12 (-1)) (15 + 6 * c) 11 (nI t + 1)) (20 + 6 * c) r (stkT σ c r (σ (20 + 6 * c) r + σ (20 + 6 * c) m))
  else if K = 105 then st2 (st2 (st2 σ (15 + 6 * c) 12 (-1)) (15 + 6 * c) 11 (nI t + 1)) (20 + 6 * c) r (stkT σ c r (σ (66 + m) 2))
  else if K = 108 then st2 (st2 (st2 σ (15 + 6 * c) 12 (-1)) (15 + 6 * c) 11 (nI t + 1)) (20 + 6 * c) r (stkT σ c r nv)
  else if K = 109 then st2 (st2 (st2 (st2 σ (15 + 6 * c) 12 (-1)) (15 + 6 * c) 11 (nI t + 1)) (17 + 6 * c) row (σ (20 + 6 * c) r)) (18 + 6 * c) row 0
  else if K = 111 then st2 (st2 (st2 (st2 σ (15 + 6 * c) 12 (-1)) (15 + 6 * c) 11 (nI t + 1)) (15 + 6 * c) 12 nv) (15 + 6 * c) 13 (σ (20 + 6 * c) r)
  else if K = 114 then st2 (st2 (tdd c row (st2 σ (15 + 6 * c) 12 (-1))) (15 + 6 * c) 11 (nI t + 1)) (20 + 6 * c) r (stkT σ c r (σ (17 + 6 * c) row))
  else if K = 115 then st2 (st2 (st2 σ (15 + 6 * c) 12 (-1)) (15 + 6 * c) 11 (nI t + 1)) (20 + 6 * c) r (stkT σ c r (σ (20 + 6 * c) r - σ (20 + 6 * c) m))
  else if 0 < σ (20 + 6 * c) r then st2 (st2 (st2 σ (15 + 6 * c) 12 (-1)) (15 + 6 * c) 11 (nI t + 1)) (15 + 6 * c) 11 nv
  else st2 (st2 σ (15 + 6 * c) 12 (-1)) (15 + 6 * c) 11 (nI t + 1)
theorem stkT_12 (σ : TS) (c r : Nat) (x v : Int32) : stkT (st2 σ (15 + 6 * c) 12 v) c r x = stkT σ c r x := by
  unfold stkT
  rw [st2_nj σ v (show (5 : Nat) ≠ 12 by decide), st2_nj σ v (show (9 : Nat) ≠ 12 by decide), st2_nj σ v (show (10 : Nat) ≠ 12 by decide)]
theorem stkT_11 (σ : TS) (c r : Nat) (x v : Int32) : stkT (st2 σ (15 + 6 * c) 11 v) c r x = stkT σ c r x := by
  unfold stkT
  rw [st2_nj σ v (show (5 : Nat) ≠ 11 by decide), st2_nj σ v (show (9 : Nat) ≠ 11 by decide), st2_nj σ v (show (10 : Nat) ≠ 11 by decide)]
theorem stkT_dd (σ : TS) (c r i : Nat) (x : Int32) : stkT (tdd c i σ) c r x = stkT σ c r x := by
  unfold stkT tdd
  rw [st2_ne _ _ _ (show 15 + 6 * c ≠ 16 + 6 * c by omega), st2_ne _ _ _ (show 15 + 6 * c ≠ 18 + 6 * c by omega)]
def iAtT (p t : Nat) (K nv : Int32) (r m : Nat) (σ : TS) : Prop := t < 10 ∧ σ (40 + 4 * p) t = K ∧ σ (41 + 4 * p) t = nI r ∧ σ (42 + 4 * p) t = nv ∧ r < 4 ∧ (K ≠ 108 → nv = nI m ∧ m < 10) ∧ (K = 97 ∨ K = 115 ∨ K = 105 ∨ K = 111 → m < 4) ∧ (K = 109 ∨ K = 114 → m < 6)
set_option maxHeartbeats 2000000 in
theorem t_carry {σ : TS} {c p t r m : Nat} {K nv : Int32} (hc : c < 4) (hp : p < 3) (hi : iAtT p t K nv r m σ) (hK : K ≠ 114) : sX1_carryOut c p (nI t) (nI (6 * p)) (st2 (st2 σ (15 + 6 * c) 12 (-1)) (15 + 6 * c) 11 (nI t + 1)) = some (0, tEff c r m (6 * p + m) t K nv σ) := by
  obtain ⟨ht, h1, h2, h3, hr, hn, hn4, hn6⟩ := hi
  have hs : ∀ x, stkT (st2 (st2 σ (15 + 6 * c) 12 (-1)) (15 + 6 * c) 11 (nI t + 1)) c r x = stkT σ c r x := fun x => by rw [stkT_11, stkT_12]
  have hvt : vin (nI t) 10 = true := vin_nI ht (by decide)
  have hct : (nI t).toNatClampNeg = t := nI_clamp (by omega)
  have hvr : vin (nI r) 4 = true := vin_nI hr (by decide)
  have hcr : (nI r).toNatClampNeg = r := nI_clamp (by omega)
  have e0 : ∀ k b, k ≠ 15 + 6 * c → (st2 (st2 σ (15 + 6 * c) 12 (-1)) (15 + 6 * c) 11 (nI t + 1)) k b = σ k b := fun k b hk => by rw [st2_ne _ _ _ hk, st2_ne _ _ _ hk]
  have e1 : (st2 (st2 σ (15 + 6 * c) 12 (-1)) (15 + 6 * c) 11 (nI t + 1)) (40 + 4 * p) t = K := (e0 _ _ (by omega)).trans h1
  have e2 : (st2 (st2 σ (15 + 6 * c) 12 (-1)) (15 + 6 * c) 11 (nI t + 1)) (41 + 4 * p) t = nI r := (e0 _ _ (by omega)).trans h2
  have e3 : (st2 (st2 σ (15 + 6 * c) 12 (-1)) (15 + 6 * c) 11 (nI t + 1)) (42 + 4 * p) t = nv := (e0 _ _ (by omega)).trans h3
  have e8 : ∀ i, (st2 (st2 σ (15 + 6 * c) 12 (-1)) (15 + 6 * c) 11 (nI t + 1)) (20 + 6 * c) i = σ (20 + 6 * c) i := fun i => e0 _ _ (by omega)
  unfold sX1_carryOut sX1_carryOut_0 tEff
  simp only [hvt, hct, e1, e2, e3, hvr, hcr, e8, eq_self, if_true]
  by_cases k97 : K = 97
  · rw [if_pos k97, if_pos k97]
    obtain ⟨hm, hm10⟩ := hn (by rw [k97]; decide)
    have hm4 : m < 4 := hn4 (by rw [k97]; decide)
    rw [hm, if_pos (vin_nI hm4 (by decide)), nI_clamp (show m < 2 ^ 31 by omega), t_change _ c hr, hs]
    rfl
  rw [if_neg k97, if_neg k97]
  by_cases k105 : K = 105
  · rw [if_pos k105, if_pos k105]
    obtain ⟨hm, hm10⟩ := hn (by rw [k105]; decide)
    have hm4 : m < 4 := hn4 (by rw [k105]; decide)
    rw [hm, if_pos (vin_nI hm4 (by decide)), nI_clamp (show m < 2 ^ 31 by omega), t_change _ c hr, hs, e0 (66 + m) 2 (by omega)]
    rfl
  rw [if_neg k105, if_neg k105]
  by_cases k108 : K = 108
  · rw [if_pos k108, if_pos k108]
    rw [t_change _ c hr, hs]
    rfl
  rw [if_neg k108, if_neg k108]
  by_cases k109 : K = 109
  · rw [if_pos k109, if_pos k109]
    obtain ⟨hm, hm10⟩ := hn (by rw [k109]; decide)
    have hm6 : m < 6 := hn6 (by rw [k109]; decide)
    unfold sX4_put sX4_put_0
    rw [hm, nI_add, if_pos (vin_nI (show 6 * p + m < 18 by omega) (by decide)), nI_clamp (show 6 * p + m < 2 ^ 31 by omega)]
    rfl
  rw [if_neg k109, if_neg k109]
  by_cases k111 : K = 111
  · rw [if_pos k111, if_pos k111]
    rw [st2_ne _ 12 _ (show 20 + 6 * c ≠ 15 + 6 * c by omega), e8]
    rfl
  rw [if_neg k111, if_neg k111]
  rw [if_neg hK, if_neg hK]
  by_cases k115 : K = 115
  · rw [if_pos k115, if_pos k115]
    obtain ⟨hm, hm10⟩ := hn (by rw [k115]; decide)
    have hm4 : m < 4 := hn4 (by rw [k115]; decide)
    rw [hm, if_pos (vin_nI hm4 (by decide)), nI_clamp (show m < 2 ^ 31 by omega), t_change _ c hr, hs]
    rfl
  rw [if_neg k115, if_neg k115]
  by_cases h0 : σ (20 + 6 * c) r ≤ 0
  · rw [if_pos h0, if_neg (by rw [lt_iff]; rw [le_iff] at h0; omega)]
    rfl
  · rw [if_neg h0, if_pos (by rw [lt_iff]; rw [le_iff] at h0; omega)]
    rfl
set_option maxHeartbeats 2000000 in
theorem t_carry_r {σ : TS} {c p t r m : Nat} {K nv : Int32} (hc : c < 4) (hp : p < 3) (hi : iAtT p t K nv r m σ) (hK : K = 114) : sX1_carryOut c p (nI t) (nI (6 * p)) (st2 (tdd c (6 * p + m) (st2 σ (15 + 6 * c) 12 (-1))) (15 + 6 * c) 11 (nI t + 1)) = some (0, tEff c r m (6 * p + m) t K nv σ) := by
  obtain ⟨ht, h1, h2, h3, hr, hn, hn4, hn6⟩ := hi
  obtain ⟨hm, hm10⟩ := hn (by rw [hK]; decide)
  have hm6 : m < 6 := hn6 (by rw [hK]; decide)
  have hs : ∀ x, stkT (st2 (tdd c (6 * p + m) (st2 σ (15 + 6 * c) 12 (-1))) (15 + 6 * c) 11 (nI t + 1)) c r x = stkT σ c r x := fun x => by rw [stkT_11, stkT_dd, stkT_12]
  have hvt : vin (nI t) 10 = true := vin_nI ht (by decide)
  have hct : (nI t).toNatClampNeg = t := nI_clamp (by omega)
  have e0 : ∀ k b, k ≠ 15 + 6 * c → k ≠ 16 + 6 * c → k ≠ 18 + 6 * c → (st2 (tdd c (6 * p + m) (st2 σ (15 + 6 * c) 12 (-1))) (15 + 6 * c) 11 (nI t + 1)) k b = σ k b := fun k b hk hk2 hk3 => by
    unfold tdd
    rw [st2_ne _ _ _ hk, st2_ne _ _ _ hk2, st2_ne _ _ _ hk3, st2_ne _ _ _ hk]
  have e1 := (e0 (40 + 4 * p) t (by omega) (by omega) (by omega)).trans h1
  have e2 := (e0 (41 + 4 * p) t (by omega) (by omega) (by omega)).trans h2
  have e3 := (e0 (42 + 4 * p) t (by omega) (by omega) (by omega)).trans h3
  have e6 := e0 (17 + 6 * c) (6 * p + m) (by omega) (by omega) (by omega)
  unfold sX1_carryOut sX1_carryOut_0 tEff
  simp only [hvt, hct, e1, e2, e3, eq_self, if_true]
  subst hK
  rw [if_neg (show ¬ (114 : Int32) = 97 by decide), if_neg (show ¬ (114 : Int32) = 97 by decide), if_neg (show ¬ (114 : Int32) = 105 by decide), if_neg (show ¬ (114 : Int32) = 105 by decide), if_neg (show ¬ (114 : Int32) = 108 by decide), if_neg (show ¬ (114 : Int32) = 108 by decide), if_neg (show ¬ (114 : Int32) = 109 by decide), if_neg (show ¬ (114 : Int32) = 109 by decide), if_neg (show ¬ (114 : Int32) = 111 by decide), if_neg (show ¬ (114 : Int32) = 111 by decide), if_pos (show (114 : Int32) = 114 from rfl), if_pos (show (114 : Int32) = 114 from rfl)]
  unfold sX4_unflipped sX4_unflipped_0
  rw [hm, nI_add, if_pos (vin_nI (show 6 * p + m < 18 by omega) (by decide)), nI_clamp (show 6 * p + m < 2 ^ 31 by omega), e6, Option.bind_some]
  unfold sX1_carryOut_206
  rw [t_change _ c hr, hs]
  rfl
theorem t_hasLeft {σ : TS} {c p t s : Nat} (h11 : σ (15 + 6 * c) 11 = nI t) (h3 : σ (39 + 4 * p) 3 = nI s) (ht : t < 2 ^ 31) (hs : s < 2 ^ 31) : sX1_hasLeft c p σ = some (if t < s then 1 else 0, σ) := by
  unfold sX1_hasLeft sX1_hasLeft_0
  rw [h11, h3]
  by_cases h : t < s
  · rw [if_neg (nI_ge h hs), if_pos h]
    rfl
  · rw [if_pos (nI_le (by omega) ht), if_neg h]
    rfl
theorem t_done {σ : TS} {c p t s : Nat} (hc : c < 4) (hp : p < 3) (h11 : σ (15 + 6 * c) 11 = nI t) (h3 : σ (39 + 4 * p) 3 = nI s) (ht : t < 2 ^ 31) (hs : s < 2 ^ 31) (hd : ¬ t < s) (x : Int32) : sX1_doNext c p x σ = some (1, st2 σ (15 + 6 * c) 12 (-1)) := by
  unfold sX1_doNext sX1_doNext_0
  rw [t_hasLeft (t := t) (s := s) ((st2_nj σ _ (by decide)).trans h11) ((congrFun (st2_ne σ _ _ (by omega)) _).trans h3) ht hs, if_neg hd, Option.bind_some]
  rfl
set_option maxHeartbeats 2000000 in
theorem t_left {σ : TS} {c p t s r m : Nat} {K nv : Int32} (hc : c < 4) (hp : p < 3) (h11 : σ (15 + 6 * c) 11 = nI t) (h3 : σ (39 + 4 * p) 3 = nI s) (hd : t < s) (hs : s < 2 ^ 31) (hi : iAtT p t K nv r m σ) (hb : ∀ i, i < 18 → 0 ≤ (σ (18 + 6 * c) i).toInt ∧ (σ (18 + 6 * c) i).toInt ≤ 65535) (hk : K = 114 → cntb (σ (18 + 6 * c) (6 * p + m)) ≤ 1) : sX1_doNext c p (nI (6 * p)) σ = some (1, tEff c r m (6 * p + m) t K nv σ) := by
  have hi2 := hi
  obtain ⟨ht, h1, h2, h3', hr, hn, hn4, hn6⟩ := hi
  have hvt : vin (nI t) 10 = true := vin_nI ht (by decide)
  have hct : (nI t).toNatClampNeg = t := nI_clamp (by omega)
  have g11 : (st2 σ (15 + 6 * c) 12 (-1)) (15 + 6 * c) 11 = nI t := (st2_nj σ _ (by decide)).trans h11
  have g1 : (st2 σ (15 + 6 * c) 12 (-1)) (40 + 4 * p) t = K := (congrFun (st2_ne σ _ _ (by omega)) _).trans h1
  have g3 : (st2 σ (15 + 6 * c) 12 (-1)) (42 + 4 * p) t = nv := (congrFun (st2_ne σ _ _ (by omega)) _).trans h3'
  unfold sX1_doNext sX1_doNext_0
  rw [t_hasLeft (t := t) (s := s) g11 ((congrFun (st2_ne σ _ _ (by omega)) _).trans h3) (by omega) hs, if_pos hd, Option.bind_some]
  unfold sX1_doNext_10
  simp only [e10, if_false, g11, hvt, hct, g1, g3, eq_self, if_true]
  by_cases hK : K = 114
  · obtain ⟨hm, hm10⟩ := hn (by rw [hK]; decide)
    have hm6 : m < 6 := hn6 (by rw [hK]; decide)
    have h18 : (st2 σ (15 + 6 * c) 12 (-1)) (18 + 6 * c) (6 * p + m) = σ (18 + 6 * c) (6 * p + m) := congrFun (st2_ne σ _ _ (by omega)) _
    rw [if_pos hK, hm, nI_add, t_mend_ok c (by omega) (by rw [h18]; exact hb _ (by omega)) (by rw [h18]; exact hk hK), Option.bind_some]
    unfold sX1_doNext_49 sX1_doNext_54
    rw [if_neg (show ¬ (1 : Int32) = 0 by decide), t_carry_r hc hp hi2 hK, hm]
    rfl
  · rw [if_neg hK]
    unfold sX1_doNext_54
    rw [t_carry hc hp hi2 hK]
    rfl
def logT (c : Nat) (w : Int32) (σ : TS) : TS := st2 (st2 (st2 (st2 σ 12 ((σ 11 3).toNatClampNeg % 30) (σ 0 10)) 13 ((σ 11 3).toNatClampNeg % 30) (nI c)) 14 ((σ 11 3).toNatClampNeg % 30) w) 11 3 (σ 11 3 + 1)
theorem t_log {σ : TS} {n : Nat} (c : Nat) {w : Int32} (hw : vp_nar .char w = w) (hn : n < 2 ^ 31) (h : σ 11 3 = nI n) : sX3_append (σ 0 10) (nI c) w σ = some (0, logT c w σ) := by
  have hv : vin (nI (n % 30)) 30 = true := vin_nI (Nat.mod_lt _ (by decide)) (by decide)
  have hc : (nI (n % 30)).toNatClampNeg = n % 30 := nI_clamp (by omega)
  have hi : (σ 11 3).toNatClampNeg % 30 = n % 30 := by rw [h, nI_clamp hn]
  unfold sX3_append sX3_append_0 logT
  rw [h, fm_30 σ hn, Option.bind_some, ← h, hi]
  unfold sX3_append_9
  simp only [hv, hc, hw, eq_self, if_true]
  rfl
def offT (c : Nat) (w : Int32) (σ : TS) : TS := logT c w (st2 (st2 σ (15 + 6 * c) 6 0) (15 + 6 * c) 7 0)
theorem t_off {σ : TS} {n c : Nat} {w : Int32} (hc : c < 3) (hw : vp_nar .char w = w) (hn : n < 2 ^ 31) (h : σ 11 3 = nI n) : sX8_shutOff (nI c) w σ = some (0, offT c w σ) := by
  have h11 : (st2 (st2 σ (15 + 6 * c) 6 0) (15 + 6 * c) 7 0) 11 3 = nI n := by
    rw [st2_ne _ _ _ (show 11 ≠ 15 + 6 * c by omega), st2_ne _ _ _ (show 11 ≠ 15 + 6 * c by omega), h]
  unfold sX8_shutOff sX8_shutOff_0 offT
  rw [if_pos (vin_nI hc (by decide)), nI_clamp (show c < 2 ^ 31 by omega), t_log c hw hn h11]
  rfl
theorem a0 (x : Int32) : x + 0 = x := Int32.add_zero x
theorem t_stk_def (K : Nat) (a : Int32) (σ : TS) : sX8_shutOffStruckOnes_2 (K + 1) a σ = (if ((3 : Int32)) ≤ a then some (0, σ) else (if vin a 3 = true then (if (σ (15+6*(a.toNatClampNeg)) 6) = 0 then sX8_shutOffStruckOnes_39 (sX8_shutOffStruckOnes_2 K) a σ else (if (σ (15+6*(a.toNatClampNeg)) 4) < ((3 : Int32)) then sX8_shutOffStruckOnes_39 (sX8_shutOffStruckOnes_2 K) a σ else ((sX8_shutOff a ((118 : Int32)) σ).bind (fun z => sX8_shutOffStruckOnes_39 (sX8_shutOffStruckOnes_2 K) a z.2)))) else none)) := rfl
theorem t_one_def (K p : Nat) (a : Int32) (σ : TS) : sX8_isOneOfThreeLeft_2 (K + 1) p a σ = (if ((3 : Int32)) ≤ a then some ((0 : Int32), σ) else (if vin a 3 = true then (if (σ (15+6*(a.toNatClampNeg)) 6) = 0 then sX8_isOneOfThreeLeft_34 (sX8_isOneOfThreeLeft_2 K) p a σ else ((sX1_hasLeft (a.toNatClampNeg) p σ).bind (fun z => sX8_isOneOfThreeLeft_29 (sX8_isOneOfThreeLeft_2 K) p a z.1 z.2))) else none)) := rfl
theorem t_38_def (K p : Nat) (a b : Int32) (σ : TS) : sX8_runSlot_38 (K + 1) p a b σ = (if ((30 : Int32)) ≤ b then sX8_runSlot_72 p σ else ((sX8_isAnyLeft p σ).bind (fun z => sX8_runSlot_49 (sX8_runSlot_38 K) p a b z.1 z.2))) := rfl
theorem t_scr_def (K : Nat) (x a : Int32) (σ : TS) : sX8_scrub_12 (K + 1) x a σ = (if ((3 : Int32)) ≤ a then some (0, σ) else (if vin a 3 = true then (if (σ (15+6*(a.toNatClampNeg)) 6) = 0 then sX8_scrub_52 (sX8_scrub_12 K) x a σ else ((sX4_mend ((a.toNatClampNeg)) x σ).bind (fun z => sX8_scrub_42 (sX8_scrub_12 K) x a z.1 z.2))) else none)) := rfl
def tkT (c : Nat) (σ : TS) : TS := st2 σ (15 + 6 * c) 2 (σ (15 + 6 * c) 2 + σ (15 + 6 * c) 3)
theorem t_tick (σ : TS) : sX8_tickClocks σ = some (0, tkT 2 (tkT 1 (tkT 0 σ))) := by
  have hd : ∀ K (a : Int32) (ν : TS), sX8_tickClocks_2 (K + 1) a ν = (if ((3 : Int32)) ≤ a then some (0, ν) else (if vin a 3 = true then sX8_tickClocks_2 K (a + (1 : Int32)) (st2 ν (15+6*(a.toNatClampNeg)) 2 ((ν (15+6*(a.toNatClampNeg)) 2) + (ν (15+6*(a.toNatClampNeg)) 3))) else none)) := fun _ _ _ => rfl
  have hs : ∀ K c (ν : TS), c < 3 → sX8_tickClocks_2 (K + 1) (nI c) ν = sX8_tickClocks_2 K (nI (c + 1)) (tkT c ν) := fun K c ν hc => by
    rw [hd, if_neg (show ¬ (3 : Int32) ≤ nI c from nI_ge (b := 3) hc (by decide)), if_pos (vin_nI hc (by decide)), nI_clamp (show c < 2 ^ 31 by omega), nI_1]
    rfl
  have h0 : sX8_tickClocks σ = sX8_tickClocks_2 4 (nI 0) σ := rfl
  rw [h0, hs 3 0 _ (by decide), hs 2 1 _ (by decide), hs 1 2 _ (by decide), hd, if_pos (show (3 : Int32) ≤ nI (2 + 1) by decide)]
theorem t_mclock (σ : TS) {a b d : Nat} (ha : a < 3) (hb : b < 3) (hd : d < 3) : sX8_middleClock (nI a) (nI b) (nI d) σ = some (md (σ (15 + 6 * a) 2) (σ (15 + 6 * b) 2 + σ (19 + 6 * b) a) (σ (15 + 6 * d) 2 + σ (19 + 6 * d) a), σ) := by
  unfold sX8_middleClock sX8_middleClock_0 sX8_middleClock_19 sX8_middleClock_29 sX8_middleClock_32 sX1_clockToldTo sX1_clockToldTo_0
  rw [if_pos (vin_nI ha (by decide)), if_pos (vin_nI hb (by decide)), nI_clamp (show a < 2 ^ 31 by omega), nI_clamp (show b < 2 ^ 31 by omega), nI_clamp (show d < 2 ^ 31 by omega)]
  simp only [if_pos (vin_nI ha (show 3 < 2 ^ 31 by decide)), if_pos (vin_nI hd (show 3 < 2 ^ 31 by decide)), Option.bind_some, t_middle]
theorem t_hold (σ : TS) : sX8_holdClocksTogether σ = some (0, st2 (st2 (st2 σ (15 + 6 * 0) 2 (md (σ (15 + 6 * 0) 2) (σ (15 + 6 * 1) 2 + σ (19 + 6 * 1) 0) (σ (15 + 6 * 2) 2 + σ (19 + 6 * 2) 0))) (15 + 6 * 1) 2 (md (σ (15 + 6 * 1) 2) (σ (15 + 6 * 0) 2 + σ (19 + 6 * 0) 1) (σ (15 + 6 * 2) 2 + σ (19 + 6 * 2) 1))) (15 + 6 * 2) 2 (md (σ (15 + 6 * 2) 2) (σ (15 + 6 * 0) 2 + σ (19 + 6 * 0) 2) (σ (15 + 6 * 1) 2 + σ (19 + 6 * 1) 2))) := by
  unfold sX8_holdClocksTogether sX8_holdClocksTogether_0 sX8_holdClocksTogether_7 sX8_holdClocksTogether_15 sX8_holdClocksTogether_23
  simp only [show (0 : Int32) = nI 0 from rfl, show (1 : Int32) = nI 1 from rfl, show (2 : Int32) = nI 2 from rfl, t_mclock σ (show 0 < 3 by decide) (show 1 < 3 by decide) (show 2 < 3 by decide), t_mclock σ (show 1 < 3 by decide) (show 0 < 3 by decide) (show 2 < 3 by decide), t_mclock σ (show 2 < 3 by decide) (show 0 < 3 by decide) (show 1 < 3 by decide), Option.bind_some]
theorem t_ip_def (K : Nat) (a : Int32) (σ : TS) : sX8_isPlain_2 (K + 1) a σ = (if ((4 : Int32)) ≤ a then some ((1 : Int32), σ) else (if vin a 4 = true then (if (σ (9+0) (a.toNatClampNeg)) = (σ (9+1) (a.toNatClampNeg)) then sX8_isPlain_2 K (a + (1 : Int32)) σ else some ((0 : Int32), σ)) else none)) := rfl
theorem t_row {σ : TS} {n x : Nat} (h : σ 11 3 = nI n) (hn : n < 2 ^ 30) (hx : x < n) : sX3_rowOf (nI x) σ = some (nI ((n - 1 - x) % 30), σ) := by
  have h1 : nI n - 1 - nI x = nI (n - 1 - x) := by
    rw [show (1 : Int32) = nI 1 from rfl, pk_sub (by omega), pk_sub (by omega)]
  have h2 : (n - 1 - x) ^^^ 30 < 2 ^ 30 := Nat.xor_lt_two_pow (by omega) (by decide)
  unfold sX3_rowOf sX3_rowOf_0 sX3_rowOf_13 sJ9_floorMod_7cf53 sJ9_floorMod_7cf53_0 sJ9_floorMod_7cf53_18
  rw [h, h1, show (30 : Int32) = nI 30 from rfl, nx_xor, if_pos (show nzk (nI 30) = true by decide), if_pos (nI_pos' (by omega)), Option.bind_some, pk_rem (by omega) (by decide) (by decide)]
theorem t_comp {σ : TS} {n x : Nat} (h : σ 11 3 = nI n) (hn : n < 2 ^ 30) (hx : x < n) : sX3_computerOf (nI x) σ = some (σ 13 ((n - 1 - x) % 30), σ) := by
  unfold sX3_computerOf sX3_computerOf_0 sX3_computerOf_9
  rw [t_row h hn hx, Option.bind_some, if_pos (vin_nI (Nat.mod_lt _ (by decide)) (by decide)), nI_clamp (Nat.lt_trans (Nat.mod_lt _ (by decide)) (by decide : 30 < 2 ^ 31))]
theorem t_let {σ : TS} {n x : Nat} (h : σ 11 3 = nI n) (hn : n < 2 ^ 30) (hx : x < n) : sX3_letterOf (nI x) σ = some (σ 14 ((n - 1 - x) % 30), σ) := by
  unfold sX3_letterOf sX3_letterOf_0 sX3_letterOf_9
  rw [t_row h hn hx, Option.bind_some, if_pos (vin_nI (Nat.mod_lt _ (by decide)) (by decide)), nI_clamp (Nat.lt_trans (Nat.mod_lt _ (by decide)) (by decide : 30 < 2 ^ 31))]
theorem t_tim {σ : TS} {n x : Nat} (h : σ 11 3 = nI n) (hn : n < 2 ^ 30) (hx : x < n) : sX3_timeOf (nI x) σ = some (σ 12 ((n - 1 - x) % 30), σ) := by
  unfold sX3_timeOf sX3_timeOf_0 sX3_timeOf_9
  rw [t_row h hn hx, Option.bind_some, if_pos (vin_nI (Nat.mod_lt _ (by decide)) (by decide)), nI_clamp (Nat.lt_trans (Nat.mod_lt _ (by decide)) (by decide : 30 < 2 ^ 31))]
theorem t_it_def (K : Nat) (a : Int32) (σ : TS) : sX8_isTrue_25 (K + 1) a σ = (if ((3 : Int32)) ≤ a then some ((1 : Int32), σ) else (if vin a 3 = true then (if (σ (15+6*(a.toNatClampNeg)) 6) = 0 then sX8_isTrue_57 (sX8_isTrue_25 K) a σ else (if (σ (15+6*(a.toNatClampNeg)) 4) < ((3 : Int32)) then sX8_isTrue_57 (sX8_isTrue_25 K) a σ else some ((0 : Int32), σ))) else none)) := rfl
def cpT (k kf b : Nat) (f : Nat → Int32) : Nat → Nat → TS → TS
  | 0, _, σ => σ
  | d + 1, w, σ => cpT k kf b f d (w + 1) (st2 (st2 σ k (b + w) (f w)) kf (b + w) 0)
theorem cpT_ne (k kf b : Nat) (f : Nat → Int32) {a : Nat} (h1 : a ≠ k) (h2 : a ≠ kf) : ∀ d w (σ : TS), cpT k kf b f d w σ a = σ a
  | 0, _, _ => rfl
  | d + 1, w, σ => by
    show cpT k kf b f d (w + 1) (st2 (st2 σ k (b + w) (f w)) kf (b + w) 0) a = σ a
    rw [cpT_ne k kf b f h1 h2 d, st2_ne _ _ _ h2, st2_ne _ _ _ h1]
theorem t_becomeLike {c m : Nat} (hcm : c ≠ m) (hc : c < 3) (hm : m < 3) (f : Nat → Int32) : ∀ d i (σ : TS), i + d = 18 → (∀ w, w < 18 → σ (17 + 6 * m) w = f w) → sX4_becomeLike_2 (d + 1) c m (nI i) σ = some (0, cpT (17 + 6 * c) (18 + 6 * c) 0 f d i σ) := by
  have hd : ∀ K (a : Int32) (σ : TS), sX4_becomeLike_2 (K + 1) c m a σ = (if ((18 : Int32)) ≤ a then some (0, σ) else ((sX4_unflipped m a σ).bind (fun z => sX4_becomeLike_15 (sX4_becomeLike_2 K) c m c a a z.1 z.2))) := fun _ _ _ => rfl
  intro d
  induction d with
  | zero =>
    intro i σ hi hf
    rw [show i = 18 by omega, hd, if_pos (show (18 : Int32) ≤ nI 18 by decide)]
    rfl
  | succ d ih =>
    intro i σ hi hf
    have hi18 : i < 18 := by omega
    rw [hd, if_neg (show ¬ (18 : Int32) ≤ nI i from nI_ge (b := 18) hi18 (by decide))]
    unfold sX4_unflipped sX4_unflipped_0
    rw [if_pos (vin_nI hi18 (by decide)), nI_clamp (show i < 2 ^ 31 by omega), hf i hi18, Option.bind_some]
    unfold sX4_becomeLike_15 sX4_put sX4_put_0
    rw [if_pos (vin_nI hi18 (by decide)), nI_clamp (show i < 2 ^ 31 by omega), Option.bind_some]
    unfold sX4_becomeLike_18
    rw [nI_1, ih (i + 1) _ (by omega) (fun w hw => by
      show st2 (st2 σ (17 + 6 * c) i (f i)) (18 + 6 * c) i 0 (17 + 6 * m) w = f w
      rw [st2_ne _ _ _ (by omega), st2_ne _ _ _ (by omega)]
      exact hf w hw)]
    show _ = some (0, cpT (17 + 6 * c) (18 + 6 * c) 0 f d (i + 1) (st2 (st2 σ (17 + 6 * c) (0 + i) (f i)) (18 + 6 * c) (0 + i) 0))
    rw [Nat.zero_add]
