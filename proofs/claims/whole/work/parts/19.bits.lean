theorem z_nI (a : Nat) : Int32.ofInt (a : Int) = nI a := rfl
theorem z_lN (a : Nat) : Int64.ofInt (a : Int) = lN a := rfl
theorem zAnd_nat {a b : Nat} (ha : a < 2147483648) : zAnd a b = ((a &&& b : Nat) : Int) := by
  unfold zAnd
  rw [z_nI, z_nI, fa_and, nI_toInt (Nat.lt_of_le_of_lt Nat.and_le_left ha)]
theorem zAnd_nat' {a b : Nat} (hb : b < 2147483648) : zAnd a b = ((a &&& b : Nat) : Int) := by
  unfold zAnd
  rw [z_nI, z_nI, fa_and, nI_toInt (Nat.lt_of_le_of_lt Nat.and_le_right hb)]
theorem zOr_nat {a b : Nat} (ha : a < 2147483648) (hb : b < 2147483648) : zOr a b = ((a ||| b : Nat) : Int) := by
  unfold zOr
  rw [z_nI, z_nI, fa_or, nI_toInt (Nat.or_lt_two_pow (n := 31) ha hb)]
theorem zShl_nat {a s : Nat} (hs : s < 32) (h : a * 2 ^ s < 2147483648) : zShl a s = ((a * 2 ^ s : Nat) : Int) := by
  unfold zShl
  rw [z_nI, z_nI, pk_shlN _ s (s_l s hs) (by omega), nI_toInt h]
theorem zShl_one {s : Nat} (hs : s < 31) : zShl 1 s = ((2 ^ s : Nat) : Int) := by
  have h2 : 2 ^ s < 2 ^ 31 := Nat.pow_lt_pow_right (by decide) hs
  have := zShl_nat (a := 1) (s := s) (by omega) (by omega)
  rw [Nat.one_mul] at this
  exact this
theorem zShr_nat {a s : Nat} (hs : s < 32) (h : a < 2147483648) : zShr a s = ((a / 2 ^ s : Nat) : Int) := by
  unfold zShr
  rw [z_nI, z_nI, pk_shrN h _ s (s_l s hs), nI_toInt (Nat.lt_of_le_of_lt (Nat.div_le_self _ _) h)]
/-- a without the bits of b -/
def nAndn (a b : Nat) : Nat := a ^^^ (a &&& b)
theorem nAndn_bit (a b i : Nat) : (nAndn a b).testBit i = (a.testBit i && !b.testBit i) := by
  unfold nAndn
  rw [Nat.testBit_xor, Nat.testBit_and]
  cases a.testBit i <;> cases b.testBit i <;> rfl
theorem nAndn_le (a b : Nat) : nAndn a b ≤ a := by
  have h : nAndn a b = a &&& nAndn a b := by
    apply Nat.eq_of_testBit_eq
    intro i
    rw [Nat.testBit_and, nAndn_bit]
    cases a.testBit i <;> simp
  rw [h]
  exact Nat.and_le_left
theorem nAndn_and (c b : Nat) (hc : c < 4294967296) : c &&& (b ^^^ 4294967295) = nAndn c b := by
  apply Nat.eq_of_testBit_eq
  intro i
  rw [Nat.testBit_and, nAndn_bit, Nat.testBit_xor, show (4294967295 : Nat) = 2 ^ 32 - 1 from rfl, Nat.testBit_two_pow_sub_one]
  by_cases hi : i < 32
  · simp [hi]
  · have : c.testBit i = false := Nat.testBit_lt_two_pow (Nat.lt_of_lt_of_le hc (by rw [show (4294967296 : Nat) = 2 ^ 32 from rfl]; exact Nat.pow_le_pow_right (by decide) (by omega)))
    simp [this]
theorem zAndn {c b : Nat} (hc : c < 2147483648) : zAnd c (zXor b (-1)) = (nAndn c b : Int) := by
  unfold zAnd zXor
  rw [Int32.ofInt_toInt, z_nI, z_nI, show Int32.ofInt (-1) = nI 4294967295 from by decide, fb_xorI, fa_and, nAndn_and c b (by omega), nI_toInt (Nat.lt_of_le_of_lt (nAndn_le c b) hc)]
theorem zAndn' {c b : Nat} (hc : c < 2147483648) : zAnd (zXor b (-1)) c = (nAndn c b : Int) := by
  rw [← zAndn hc]
  unfold zAnd
  rw [Int32.and_comm]
theorem zAndL_nat {a b : Nat} (ha : a < 9223372036854775808) : zAndL a b = ((a &&& b : Nat) : Int) := by
  unfold zAndL
  rw [z_lN, z_lN, fb_andL, pk_lT (Nat.lt_of_le_of_lt Nat.and_le_left ha)]
theorem zOrL_nat {a b : Nat} (ha : a < 9223372036854775808) (hb : b < 9223372036854775808) : zOrL a b = ((a ||| b : Nat) : Int) := by
  unfold zOrL
  rw [z_lN, z_lN, fb_orL, pk_lT (Nat.or_lt_two_pow (n := 63) ha hb)]
theorem zShlL_nat {a s : Nat} (hs : s < 64) (h : a * 2 ^ s < 9223372036854775808) : zShlL a s = ((a * 2 ^ s : Nat) : Int) := by
  unfold zShlL
  rw [z_lN, z_nI, wb_shl a hs, pk_lT h]
theorem zShrL_nat {a s : Nat} (hs : s < 64) (h : a < 4611686018427387904) : zShrL a s = ((a / 2 ^ s : Nat) : Int) := by
  unfold zShrL
  rw [z_lN, z_nI, wb_c s hs, pf_shr (d := s) (by rw [show (lN s).toBitVec = BitVec.ofNat 64 s from rfl, wb_sm s hs]; simp; omega) h, pk_lT (Nat.lt_of_le_of_lt (Nat.div_le_self _ _) (by omega))]
def zL2I (x : Int) : Int := (Int64.ofInt x).toInt32.toInt
theorem z_l2iW {μ : zD} {d pc : Nat} {ls : List (Option zAV)} {st : List zAV} {M : zMem} {post : Int → zMem → Prop} {x : Int} (hd : decode μ.2.1 pc = .ok (.l2i, 1)) (k : zV μ d (pc + 1) ls (zi (zL2I x) :: st) M post) : zV μ d pc ls (zl x :: st) M post := by
  intro hR l dC dI as cA p e s m args below meth c H locs lsA hC hP hD hS hL
  have k := k hR l dC dI as cA p e s m args below meth c H locs lsA hC hP hD hS hL
  simp only [List.map, zcv, zL2I, Int32.ofInt_toInt] at k
  exact lv_l2i hC.1 hC.2.1 hd rfl k
theorem zL2I_511 (a : Nat) : zAnd (zL2I a) 511 = ((a % 512 : Nat) : Int) := by
  unfold zAnd zL2I
  rw [Int32.ofInt_toInt, z_lN, lN_i, show Int32.ofInt 511 = nI (2 ^ 9 - 1) from rfl, fa_mask, nI_toInt (by omega)]
theorem z_bit01 (a l : Nat) : zAnd ((a / 2 ^ l : Nat) : Int) 1 = if a.testBit l then 1 else 0 := by
  have h := zAnd_nat' (a := a / 2 ^ l) (b := 1) (by decide)
  rw [show ((1 : Nat) : Int) = 1 from rfl] at h
  rw [h, Nat.testBit_eq_decide_div_mod_eq, Nat.and_one_is_mod]
  rcases Nat.mod_two_eq_zero_or_one (a / 2 ^ l) with q | q <;> simp [q]
theorem z_bit {a l : Nat} (ha : a < 2147483648) (hl : l < 32) : zAnd (zShr a l) 1 = if a.testBit l then 1 else 0 := by
  rw [zShr_nat hl ha, z_bit01]
theorem zrng_toInt (x : Int32) : zrng x.toInt := ⟨by have := Int32.le_toInt x; omega, by have := Int32.toInt_lt x; omega⟩
theorem zrng_nat {n : Nat} (h : n < 2147483648) : zrng (n : Int) := by omega
