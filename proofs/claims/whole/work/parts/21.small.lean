/-- the memory behind a term put -/
def mTermsAdd (M : zMem) (a b : Nat) : zMem := zmu (zmu (zmu (zmu M 1 3 (M 1 3 + 1)) 10 (M 1 3).toNat a) 11 (M 1 3).toNat b) 12 (M 1 3).toNat (zOr (zOr (zShl 1 (M 1 3)) (M 12 a)) (M 12 b))
theorem sp_Terms_add (M : zMem) (a b : Nat) (ha : a < 20) (hb : b < 20) (hT : 3 ≤ M 1 3 ∧ M 1 3 ≤ 20) : zSp zd_Terms_add 0 [zr 1, zi a, zi b] M (fun r M' => (M 1 3 = 20 ∧ r = -4 ∧ M' = M) ∨ (M 1 3 < 20 ∧ r = M 1 3 ∧ M' = mTermsAdd M a b)) := by
  refine zSp_in 1 [some (zr 1), some (zi a), some (zi b), none] rfl rfl (by decide +kernel) rfl ?_
  refine z_withR (fun hR => ?_)
  refine zaload_4_0 dX7_add_0 ?_
  refine zg_Terms_21 rfl dX7_add_1 ?_
  refine z_bipush dX7_add_4 (by decide) ?_
  refine z_icmp_lt (tgt := 12) (by first | omega | exact hR.1 _ _ (by decide) | exact zrng_toInt _) (by first | omega | exact hR.1 _ _ (by decide) | exact zrng_toInt _) dX7_add_6 (by decide) (fun h6 => ?_) (fun h6 => ?_)
  · refine zaload_4_0 dX7_add_12 ?_
    refine z_dup (fun _ => rfl) dX7_add_13 ?_
    refine zg_Terms_21 rfl dX7_add_14 ?_
    refine z_dup_x1 (fun _ => rfl) (fun _ => rfl) dX7_add_17 ?_
    refine z_iconst dX7_add_18 ?_
    refine z_iadd dX7_add_19 ?_
    refine zp_Terms_21 rfl (by first | omega | exact hR.1 _ _ (by decide) | exact zrng_toInt _) dX7_add_20 ?_
    refine z_withR (fun hR => ?_)
    refine zistore_4_3 dX7_add_23 ?_
    refine zaload_4_0 dX7_add_24 ?_
    refine zg_Terms_11 rfl dX7_add_25 ?_
    refine ziload_4_3 dX7_add_28 ?_
    refine ziload_4_1 dX7_add_29 ?_
    refine z_iast ((M 1 3).toNat) (by decide) rfl (by decide) (by decide) (by omega) (by omega) (by first | omega | exact hR.1 _ _ (by decide) | exact zrng_toInt _) dX7_add_30 ?_
    refine z_withR (fun hR => ?_)
    refine zaload_4_0 dX7_add_31 ?_
    refine zg_Terms_15 rfl dX7_add_32 ?_
    refine ziload_4_3 dX7_add_35 ?_
    refine ziload_4_2 dX7_add_36 ?_
    refine z_iast ((M 1 3).toNat) (by decide) rfl (by decide) (by decide) (by omega) (by omega) (by first | omega | exact hR.1 _ _ (by decide) | exact zrng_toInt _) dX7_add_37 ?_
    refine z_withR (fun hR => ?_)
    refine zaload_4_0 dX7_add_38 ?_
    refine zg_Terms_18 rfl dX7_add_39 ?_
    refine ziload_4_3 dX7_add_42 ?_
    refine z_iconst dX7_add_43 ?_
    refine ziload_4_3 dX7_add_44 ?_
    refine z_ishl dX7_add_45 ?_
    refine zaload_4_0 dX7_add_46 ?_
    refine zg_Terms_18 rfl dX7_add_47 ?_
    refine ziload_4_1 dX7_add_50 ?_
    refine z_iald _ rfl (by decide) (by decide) rfl (by omega) dX7_add_51 ?_
    refine z_ior dX7_add_52 ?_
    refine zaload_4_0 dX7_add_53 ?_
    refine zg_Terms_18 rfl dX7_add_54 ?_
    refine ziload_4_2 dX7_add_57 ?_
    refine z_iald _ rfl (by decide) (by decide) rfl (by omega) dX7_add_58 ?_
    refine z_ior dX7_add_59 ?_
    refine z_iast ((M 1 3).toNat) (by decide) rfl (by decide) (by decide) (by omega) (by omega) (by first | omega | exact hR.1 _ _ (by decide) | exact zrng_toInt _) dX7_add_60 ?_
    refine z_withR (fun hR => ?_)
    refine ziload_4_3 dX7_add_61 ?_
    refine z_iret rfl ?_ dX7_add_62
    exact Or.inr ⟨by omega, rfl, rfl⟩
  · refine z_bipush dX7_add_9 (by decide) ?_
    refine z_iret rfl ?_ dX7_add_11
    exact Or.inl ⟨by omega, rfl, rfl⟩
def mPageAdd (M : zMem) (a b : Int) : zMem := zmu (zmu (zmu M 13 (M 2 2).toNat a) 14 (M 2 2).toNat b) 2 2 (M 2 2 + 1)
theorem sp_Page_add (M : zMem) (a b : Int) (ha : zrng a) (hb : zrng b) (hT : 0 ≤ M 2 2 ∧ M 2 2 ≤ 6) : zSp zd_Page_add 0 [zr 2, zi a, zi b] M (fun r M' => (M 2 2 = 6 ∧ r = -4 ∧ M' = M) ∨ (M 2 2 < 6 ∧ r = M 2 2 ∧ M' = mPageAdd M a b)) := by
  refine zSp_in 0 [some (zr 2), some (zi a), some (zi b)] rfl rfl (by decide +kernel) rfl ?_
  refine z_withR (fun hR => ?_)
  refine zaload_3_0 dX3_add_0 ?_
  refine zg_Page_18 rfl dX3_add_1 ?_
  refine z_bipush dX3_add_4 (by decide) ?_
  refine z_icmp_lt (tgt := 12) (by first | omega | exact hR.1 _ _ (by decide) | exact zrng_toInt _) (by first | omega | exact hR.1 _ _ (by decide) | exact zrng_toInt _) dX3_add_6 (by decide) (fun h6 => ?_) (fun h6 => ?_)
  · refine zaload_3_0 dX3_add_12 ?_
    refine zg_Page_11 rfl dX3_add_13 ?_
    refine zaload_3_0 dX3_add_16 ?_
    refine zg_Page_18 rfl dX3_add_17 ?_
    refine ziload_3_1 dX3_add_20 ?_
    refine z_iast ((M 2 2).toNat) (by decide) rfl (by decide) (by decide) (by omega) (by omega) (by first | omega | exact hR.1 _ _ (by decide) | exact zrng_toInt _) dX3_add_21 ?_
    refine z_withR (fun hR => ?_)
    refine zaload_3_0 dX3_add_22 ?_
    refine zg_Page_15 rfl dX3_add_23 ?_
    refine zaload_3_0 dX3_add_26 ?_
    refine zg_Page_18 rfl dX3_add_27 ?_
    refine ziload_3_2 dX3_add_30 ?_
    refine z_iast ((M 2 2).toNat) (by decide) rfl (by decide) (by decide) (show M 2 2 = _ by omega) (by omega) (by first | omega | exact hR.1 _ _ (by decide) | exact zrng_toInt _) dX3_add_31 ?_
    refine z_withR (fun hR => ?_)
    refine zaload_3_0 dX3_add_32 ?_
    refine z_dup (fun _ => rfl) dX3_add_33 ?_
    refine zg_Page_18 rfl dX3_add_34 ?_
    refine z_dup_x1 (fun _ => rfl) (fun _ => rfl) dX3_add_37 ?_
    refine z_iconst dX3_add_38 ?_
    refine z_iadd dX3_add_39 ?_
    refine zp_Page_18 rfl (show zrng (M 2 2 + 1) by omega) dX3_add_40 ?_
    refine z_withR (fun hR => ?_)
    refine z_iret rfl ?_ dX3_add_43
    exact Or.inr ⟨by omega, rfl, rfl⟩
  · refine z_bipush dX3_add_9 (by decide) ?_
    refine z_iret rfl ?_ dX3_add_11
    exact Or.inl ⟨by omega, rfl, rfl⟩
theorem sp_Page_all (M : zMem) (n : Nat) (hn : n ≤ 6) (hM : M 2 2 = n) : zSp zd_Page_all 0 [zr 2] M (fun r M' => M' = M ∧ r = ((2 ^ n - 1 : Nat) : Int)) := by
  refine zSp_in 0 [some (zr 2)] rfl rfl (by decide +kernel) rfl ?_
  refine z_withR (fun hR => ?_)
  refine z_iconst dX3_all_0 ?_
  refine zaload_1_0 dX3_all_1 ?_
  refine zg_Page_18 rfl dX3_all_2 ?_
  refine z_ishl dX3_all_5 ?_
  refine z_iconst dX3_all_6 ?_
  refine z_isub dX3_all_7 ?_
  refine z_iret rfl ?_ dX3_all_8
  refine ⟨rfl, ?_⟩
  rw [hM, zShl_one (by omega)]
  have : 1 ≤ 2 ^ n := Nat.one_le_two_pow
  omega
theorem sp_Notions_has (M : zMem) (t : Int) (ht : zrng t) : zSp zd_Notions_has 0 [zr 5, zi t] M (fun r M' => M' = M ∧ r = if 0 ≤ t ∧ t < M 5 6 then 1 else 0) := by
  refine zSp_in 0 [some (zr 5), some (zi t)] rfl rfl (by decide +kernel) rfl ?_
  refine z_withR (fun hR => ?_)
  refine ziload_2_1 dX2_has_0 ?_
  refine z_if_lt (tgt := 16) (by first | omega | exact hR.1 _ _ (by decide) | exact zrng_toInt _) dX2_has_1 (by decide) (fun h1 => ?_) (fun h1 => ?_)
  · refine z_iconst dX2_has_16 ?_
    refine z_zret rfl (by omega) ?_ dX2_has_17
    refine ⟨rfl, ?_⟩
    split <;> omega
  · refine ziload_2_1 dX2_has_4 ?_
    refine zaload_2_0 dX2_has_5 ?_
    refine zg_Notions_31 rfl dX2_has_6 ?_
    refine z_icmp_ge (tgt := 16) (by first | omega | exact hR.1 _ _ (by decide) | exact zrng_toInt _) (by first | omega | exact hR.1 _ _ (by decide) | exact zrng_toInt _) dX2_has_9 (by decide) (fun h9 => ?_) (fun h9 => ?_)
    · refine z_iconst dX2_has_16 ?_
      refine z_zret rfl (by omega) ?_ dX2_has_17
      refine ⟨rfl, ?_⟩
      split <;> omega
    · refine z_iconst dX2_has_12 ?_
      refine z_goto (tgt := 17) dX2_has_13 (by decide) ?_
      refine z_zret rfl (by omega) ?_ dX2_has_17
      refine ⟨rfl, ?_⟩
      split <;> omega
theorem sp_Notions_howManyAwake (M : zMem) (f : Nat → Bool) (n : Nat) (hn : n ≤ 12) (hM : M 5 6 = n) (hf : ∀ i, i < n → M 26 i = if f i then 1 else 0) : zSp zd_Notions_howManyAwake 0 [zr 5] M (fun r M' => M' = M ∧ r = fb_ct f n) := by
  refine zSp_in 2 [some (zr 5), none, none] rfl rfl (by decide +kernel) rfl ?_
  refine z_withR (fun hR => ?_)
  have loop : ∀ (k i : Nat), i + k = n → zV zd_Notions_howManyAwake 0 4 [some (zr 5), some (zi (fb_ct f i)), some (zi i)] [] M (fun r M' => M' = M ∧ r = fb_ct f n) := by
    intro k
    induction k with
    | zero =>
      intro i hi
      have h0 := fb_ct_le f i
      refine ziload_3_2 dX2_howManyAwake_4 ?_
      refine zaload_3_0 dX2_howManyAwake_5 ?_
      refine zg_Notions_31 rfl dX2_howManyAwake_6 ?_
      refine z_icmp_ge (tgt := 30) (by first | omega | exact hR.1 _ _ (by decide) | exact zrng_toInt _) (by first | omega | exact hR.1 _ _ (by decide) | exact zrng_toInt _) dX2_howManyAwake_9 (by decide) (fun h9 => ?_) (fun h9 => ?_)
      · refine ziload_3_1 dX2_howManyAwake_30 ?_
        refine z_iret rfl ?_ dX2_howManyAwake_31
        exact ⟨rfl, by rw [show i = n by omega]⟩
      · omega
    | succ k ih =>
      intro i hi
      have h0 := fb_ct_le f i
      have h1 := hf i (by omega)
      have h2 := fb_ct_succ f i
      refine ziload_3_2 dX2_howManyAwake_4 ?_
      refine zaload_3_0 dX2_howManyAwake_5 ?_
      refine zg_Notions_31 rfl dX2_howManyAwake_6 ?_
      refine z_icmp_ge (tgt := 30) (by first | omega | exact hR.1 _ _ (by decide) | exact zrng_toInt _) (by first | omega | exact hR.1 _ _ (by decide) | exact zrng_toInt _) dX2_howManyAwake_9 (by decide) (fun h9 => ?_) (fun h9 => ?_)
      · omega
      · refine zaload_3_0 dX2_howManyAwake_12 ?_
        refine zg_Notions_27 rfl dX2_howManyAwake_13 ?_
        refine ziload_3_2 dX2_howManyAwake_16 ?_
        refine z_zald _ rfl (by decide) (by decide) rfl (by omega) dX2_howManyAwake_17 ?_
        rw [h1]
        refine z_if_eq (tgt := 24) (by split <;> omega) dX2_howManyAwake_18 (by decide) (fun h18 => ?_) (fun h18 => ?_)
        · have h3 : fb_ct f (i + 1) = fb_ct f i := by rw [h2]; revert h18; cases f i <;> simp
          rw [← h3]
          refine ziinc_3_2 dX2_howManyAwake_24 ?_
          refine z_goto (tgt := 4) dX2_howManyAwake_27 (by decide) ?_
          exact ih (i + 1) (by omega)
        · have h3 : fb_ct f (i + 1) = fb_ct f i + 1 := by rw [h2]; revert h18; cases f i <;> simp
          refine ziinc_3_1 dX2_howManyAwake_21 ?_
          rw [show ((fb_ct f i : Nat) : Int) + 1 = ((fb_ct f (i + 1) : Nat) : Int) by rw [h3]; omega]
          refine ziinc_3_2 dX2_howManyAwake_24 ?_
          refine z_goto (tgt := 4) dX2_howManyAwake_27 (by decide) ?_
          exact ih (i + 1) (by omega)
  refine z_iconst dX2_howManyAwake_0 ?_
  refine zistore_3_1 dX2_howManyAwake_1 ?_
  refine z_iconst dX2_howManyAwake_2 ?_
  refine zistore_3_2 dX2_howManyAwake_3 ?_
  exact loop n 0 (by omega)
theorem sp_Catalog_slotBit (M : zMem) (s : Nat) (hs : s < 2) : zSp zd_Catalog_slotBit 0 [zi s] M (fun r M' => M' = M ∧ r = ((2 ^ (6 + s) : Nat) : Int)) := by
  refine zSp_in 0 [some (zi s)] rfl rfl (by decide +kernel) rfl ?_
  refine z_withR (fun hR => ?_)
  refine z_iconst dX1_slotBit_0 ?_
  refine z_bipush dX1_slotBit_1 (by decide) ?_
  refine ziload_1_0 dX1_slotBit_3 ?_
  refine z_iadd dX1_slotBit_4 ?_
  refine z_ishl dX1_slotBit_5 ?_
  refine z_iret rfl ?_ dX1_slotBit_6
  refine ⟨rfl, ?_⟩
  rw [show (6 : Int) + (s : Int) = ((6 + s : Nat) : Int) by omega, zShl_one (by omega)]
/-- the size of an entry of the catalog -/
def eSz (e : Nat) : Nat := if e < 1 then 1 else if e < 11 then 2 else 3
theorem sp_Catalog_sizeOf (M : zMem) (e : Nat) (he : e < 3341) : zSp zd_Catalog_sizeOf 0 [zr 4, zi e] M (fun r M' => M' = M ∧ r = eSz e) := by
  refine zSp_in 0 [some (zr 4), some (zi e)] rfl rfl (by decide +kernel) rfl ?_
  refine z_withR (fun hR => ?_)
  have h2 : zro 74 2 = 1 := rfl
  have h3 : zro 74 3 = 11 := rfl
  refine ziload_2_1 dX1_sizeOf_0 ?_
  refine zg_Catalog_51 rfl dX1_sizeOf_1 ?_
  refine z_iconst dX1_sizeOf_4 ?_
  refine z_tald74 (2) rfl (by omega) dX1_sizeOf_5 ?_
  refine z_icmp_ge (tgt := 13) (by first | omega | exact hR.1 _ _ (by decide) | exact zrng_toInt _) (by first | omega | exact hR.1 _ _ (by decide) | exact zrng_toInt _) dX1_sizeOf_6 (by decide) (fun h6 => ?_) (fun h6 => ?_)
  · refine ziload_2_1 dX1_sizeOf_13 ?_
    refine zg_Catalog_51 rfl dX1_sizeOf_14 ?_
    refine z_iconst dX1_sizeOf_17 ?_
    refine z_tald74 (3) rfl (by omega) dX1_sizeOf_18 ?_
    refine z_icmp_ge (tgt := 26) (by first | omega | exact hR.1 _ _ (by decide) | exact zrng_toInt _) (by first | omega | exact hR.1 _ _ (by decide) | exact zrng_toInt _) dX1_sizeOf_19 (by decide) (fun h19 => ?_) (fun h19 => ?_)
    · refine z_iconst dX1_sizeOf_26 ?_
      refine z_iret rfl ?_ dX1_sizeOf_27
      exact ⟨rfl, by unfold eSz; (repeat' split) <;> omega⟩
    · refine z_iconst dX1_sizeOf_22 ?_
      refine z_goto (tgt := 27) dX1_sizeOf_23 (by decide) ?_
      refine z_iret rfl ?_ dX1_sizeOf_27
      exact ⟨rfl, by unfold eSz; (repeat' split) <;> omega⟩
  · refine z_iconst dX1_sizeOf_9 ?_
    refine z_goto (tgt := 27) dX1_sizeOf_10 (by decide) ?_
    refine z_iret rfl ?_ dX1_sizeOf_27
    exact ⟨rfl, by unfold eSz; (repeat' split) <;> omega⟩
theorem sp_Catalog_forgetLaws (M : zMem) (n : Int) (hn : zrng n) : zSp zd_Catalog_forgetLaws 1 [zr 4, zi n] M (fun _ M' => M' = zmu M 4 6 (if n < M 4 6 then n else M 4 6)) := by
  refine zSp_in 0 [some (zr 4), some (zi n)] rfl rfl (by decide +kernel) rfl ?_
  refine z_withR (fun hR => ?_)
  have h1 : zrng (M 4 6) := hR.1 _ _ (by decide)
  refine zaload_2_0 dX1_forgetLaws_0 ?_
  refine zaload_2_0 dX1_forgetLaws_1 ?_
  refine zg_Catalog_31 rfl dX1_forgetLaws_2 ?_
  refine ziload_2_1 dX1_forgetLaws_5 ?_
  refine zc_Catalog_70 rfl dX1_forgetLaws_6 (by decide) (Nat.le_of_ble_eq_true rfl) (by first | omega | exact hR.1 _ _ (by decide) | exact zrng_toInt _) (by first | omega | exact hR.1 _ _ (by decide) | exact zrng_toInt _) ?_
  refine zp_Catalog_31 rfl (by split <;> assumption) dX1_forgetLaws_9 ?_
  refine z_withR (fun hR => ?_)
  refine z_vret rfl ?_ dX1_forgetLaws_12
  rfl
theorem sp_Catalog_keepsAll (M : zMem) (e K ls : Nat) (he : e < 3341) (hK : M 20 e = K) (hK2 : K < 256) (hl : ls < 256) : zSp zd_Catalog_keepsAll 0 [zr 4, zi e, zi ls] M (fun r M' => M' = M ∧ r = if K &&& ls = ls then 1 else 0) := by
  refine zSp_in 0 [some (zr 4), some (zi e), some (zi ls)] rfl rfl (by decide +kernel) rfl ?_
  refine z_withR (fun hR => ?_)
  have hx := zAnd_nat (a := K) (b := ls) (by omega)
  have hy : K &&& ls ≤ ls := Nat.and_le_right
  refine zaload_3_0 dX1_keepsAll_0 ?_
  refine zg_Catalog_21 rfl dX1_keepsAll_1 ?_
  refine ziload_3_1 dX1_keepsAll_4 ?_
  refine z_iald _ rfl (by decide) (by decide) rfl (by omega) dX1_keepsAll_5 ?_
  refine ziload_3_2 dX1_keepsAll_6 ?_
  refine z_iand dX1_keepsAll_7 ?_
  rw [hK, hx]
  refine ziload_3_2 dX1_keepsAll_8 ?_
  refine z_icmp_ne (tgt := 16) (by first | omega | exact hR.1 _ _ (by decide) | exact zrng_toInt _) (by first | omega | exact hR.1 _ _ (by decide) | exact zrng_toInt _) dX1_keepsAll_9 (by decide) (fun h9 => ?_) (fun h9 => ?_)
  · refine z_iconst dX1_keepsAll_16 ?_
    refine z_zret rfl (by omega) ?_ dX1_keepsAll_17
    exact ⟨rfl, by split <;> omega⟩
  · refine z_iconst dX1_keepsAll_12 ?_
    refine z_goto (tgt := 17) dX1_keepsAll_13 (by decide) ?_
    refine z_zret rfl (by omega) ?_ dX1_keepsAll_17
    exact ⟨rfl, by split <;> omega⟩
theorem sp_S_isSize (M : zMem) (n : Int) (hn : zrng n) : zSp zd_S_isSize 0 [zi n] M (fun r M' => M' = M ∧ r = if 1 ≤ n ∧ n ≤ 3 then 1 else 0) := by
  refine zSp_in 0 [some (zi n)] rfl rfl (by decide +kernel) rfl ?_
  refine z_withR (fun hR => ?_)
  refine ziload_1_0 dX8_isSize_0 ?_
  refine z_iconst dX8_isSize_1 ?_
  refine z_icmp_lt (tgt := 14) (by first | omega | exact hR.1 _ _ (by decide) | exact zrng_toInt _) (by first | omega | exact hR.1 _ _ (by decide) | exact zrng_toInt _) dX8_isSize_2 (by decide) (fun h2 => ?_) (fun h2 => ?_)
  · refine z_iconst dX8_isSize_14 ?_
    refine z_zret rfl (by omega) ?_ dX8_isSize_15
    exact ⟨rfl, by split <;> omega⟩
  · refine ziload_1_0 dX8_isSize_5 ?_
    refine z_iconst dX8_isSize_6 ?_
    refine z_icmp_gt (tgt := 14) (by first | omega | exact hR.1 _ _ (by decide) | exact zrng_toInt _) (by first | omega | exact hR.1 _ _ (by decide) | exact zrng_toInt _) dX8_isSize_7 (by decide) (fun h7 => ?_) (fun h7 => ?_)
    · refine z_iconst dX8_isSize_14 ?_
      refine z_zret rfl (by omega) ?_ dX8_isSize_15
      exact ⟨rfl, by split <;> omega⟩
    · refine z_iconst dX8_isSize_10 ?_
      refine z_goto (tgt := 15) dX8_isSize_11 (by decide) ?_
      refine z_zret rfl (by omega) ?_ dX8_isSize_15
      exact ⟨rfl, by split <;> omega⟩
/-- how many tables of a size there are -/
def cN (n : Nat) : Nat := if n = 1 then 1 else if n = 2 then 16 else 19683
theorem sp_S_isWorld (M : zMem) (n k : Int) (hn : zrng n) (hk : zrng k) : zSp zd_S_isWorld 1 [zi n, zi k] M (fun r M' => M' = M ∧ r = if (1 ≤ n ∧ n ≤ 3) ∧ 0 ≤ k ∧ k < cN n.toNat then 1 else 0) := by
  refine zSp_in 0 [some (zi n), some (zi k)] rfl rfl (by decide +kernel) rfl ?_
  refine z_withR (fun hR => ?_)
  have h0 : 1 ≤ n ∧ n ≤ 3 → zro 70 n.toNat = cN n.toNat := by
    intro h
    rcases (show n = 1 ∨ n = 2 ∨ n = 3 by omega) with rfl | rfl | rfl <;> rfl
  have h9 : 0 ≤ cN n.toNat ∧ cN n.toNat ≤ 19683 := by unfold cN; (repeat' split) <;> omega
  refine ziload_2_0 dX8_isWorld_0 ?_
  refine zc_S_100 rfl dX8_isWorld_1 (by decide) (Nat.le_of_ble_eq_true rfl) (sp_S_isSize M n hn) (fun r1 M1 hq1 => ?_)
  refine z_withR (fun hR => ?_)
  obtain ⟨rfl, rfl⟩ := hq1
  refine z_if_eq (tgt := 24) (by split <;> omega) dX8_isWorld_4 (by decide) (fun h4 => ?_) (fun h4 => ?_)
  · have h1 : ¬ (1 ≤ n ∧ n ≤ 3) := by revert h4; split <;> simp_all
    refine z_iconst dX8_isWorld_24 ?_
    refine z_zret rfl (by omega) ?_ dX8_isWorld_25
    exact ⟨rfl, by split <;> omega⟩
  · have h1 : 1 ≤ n ∧ n ≤ 3 := by revert h4; split <;> simp_all
    have h0 := h0 h1
    refine ziload_2_1 dX8_isWorld_7 ?_
    refine z_if_lt (tgt := 24) (by first | omega | exact hR.1 _ _ (by decide) | exact zrng_toInt _) dX8_isWorld_8 (by decide) (fun h8 => ?_) (fun h8 => ?_)
    · refine z_iconst dX8_isWorld_24 ?_
      refine z_zret rfl (by omega) ?_ dX8_isWorld_25
      exact ⟨rfl, by split <;> omega⟩
    · refine ziload_2_1 dX8_isWorld_11 ?_
      refine zg_S_233 rfl dX8_isWorld_12 ?_
      refine ziload_2_0 dX8_isWorld_15 ?_
      refine z_tald70 (n.toNat) (by omega) (by omega) dX8_isWorld_16 ?_
      refine z_icmp_ge (tgt := 24) (by first | omega | exact hR.1 _ _ (by decide) | exact zrng_toInt _) (by first | omega | exact hR.1 _ _ (by decide) | exact zrng_toInt _) dX8_isWorld_17 (by decide) (fun h17 => ?_) (fun h17 => ?_)
      · refine z_iconst dX8_isWorld_24 ?_
        refine z_zret rfl (by omega) ?_ dX8_isWorld_25
        exact ⟨rfl, by split <;> omega⟩
      · refine z_iconst dX8_isWorld_20 ?_
        refine z_goto (tgt := 25) dX8_isWorld_21 (by decide) ?_
        refine z_zret rfl (by omega) ?_ dX8_isWorld_25
        exact ⟨rfl, by split <;> omega⟩
theorem sp_S_isSlot (M : zMem) (n : Int) (hn : zrng n) : zSp zd_S_isSlot 0 [zi n] M (fun r M' => M' = M ∧ r = if 0 ≤ n ∧ n < 2 then 1 else 0) := by
  refine zSp_in 0 [some (zi n)] rfl rfl (by decide +kernel) rfl ?_
  refine z_withR (fun hR => ?_)
  refine ziload_1_0 dX8_isSlot_0 ?_
  refine z_if_lt (tgt := 13) (by first | omega | exact hR.1 _ _ (by decide) | exact zrng_toInt _) dX8_isSlot_1 (by decide) (fun h1 => ?_) (fun h1 => ?_)
  · refine z_iconst dX8_isSlot_13 ?_
    refine z_zret rfl (by omega) ?_ dX8_isSlot_14
    exact ⟨rfl, by split <;> omega⟩
  · refine ziload_1_0 dX8_isSlot_4 ?_
    refine z_iconst dX8_isSlot_5 ?_
    refine z_icmp_ge (tgt := 13) (by first | omega | exact hR.1 _ _ (by decide) | exact zrng_toInt _) (by first | omega | exact hR.1 _ _ (by decide) | exact zrng_toInt _) dX8_isSlot_6 (by decide) (fun h6 => ?_) (fun h6 => ?_)
    · refine z_iconst dX8_isSlot_13 ?_
      refine z_zret rfl (by omega) ?_ dX8_isSlot_14
      exact ⟨rfl, by split <;> omega⟩
    · refine z_iconst dX8_isSlot_9 ?_
      refine z_goto (tgt := 14) dX8_isSlot_10 (by decide) ?_
      refine z_zret rfl (by omega) ?_ dX8_isSlot_14
      exact ⟨rfl, by split <;> omega⟩
theorem sp_Rows_forget (M : zMem) : zSp zd_Rows_forget 0 [zr 6] M (fun _ M' => M' = zmu (zmu M 6 8 0) 6 9 0) := by
  refine zSp_in 0 [some (zr 6)] rfl rfl (by decide +kernel) rfl ?_
  refine z_withR (fun hR => ?_)
  refine zaload_1_0 dX5_forget_0 ?_
  refine z_iconst dX5_forget_1 ?_
  refine zp_Rows_25 rfl (by first | omega | exact hR.1 _ _ (by decide) | exact zrng_toInt _) dX5_forget_2 ?_
  refine z_withR (fun hR => ?_)
  refine zaload_1_0 dX5_forget_5 ?_
  refine z_iconst dX5_forget_6 ?_
  refine zp_Rows_29 rfl (by first | omega | exact hR.1 _ _ (by decide) | exact zrng_toInt _) dX5_forget_7 ?_
  refine z_withR (fun hR => ?_)
  refine z_vret rfl ?_ dX5_forget_10
  rfl
theorem sp_Rounds_forget (M : zMem) : zSp zd_Rounds_forget 0 [zr 7] M (fun _ M' => M' = zmu M 7 5 0) := by
  refine zSp_in 0 [some (zr 7)] rfl rfl (by decide +kernel) rfl ?_
  refine z_withR (fun hR => ?_)
  refine zaload_1_0 dX4_forget_0 ?_
  refine z_iconst dX4_forget_1 ?_
  refine zp_Rounds_30 rfl (by first | omega | exact hR.1 _ _ (by decide) | exact zrng_toInt _) dX4_forget_2 ?_
  refine z_withR (fun hR => ?_)
  refine z_vret rfl ?_ dX4_forget_5
  rfl
theorem sp_S_isMadeOf (M : zMem) (w a : Int) (hw : zrng w) (ha : zrng a) : zSp zd_S_isMadeOf 1 [zr 0, zi w, zi a] M (fun r M' => M' = M ∧ r = if 0 ≤ a ∧ a < (if w = 0 then M 1 3 else M 5 6) then 1 else 0) := by
  refine zSp_in 0 [some (zr 0), some (zi w), some (zi a)] rfl rfl (by decide +kernel) rfl ?_
  refine z_withR (fun hR => ?_)
  refine ziload_3_1 dX8_isMadeOf_0 ?_
  refine z_if_ne (tgt := 15) (by first | omega | exact hR.1 _ _ (by decide) | exact zrng_toInt _) dX8_isMadeOf_1 (by decide) (fun h1 => ?_) (fun h1 => ?_)
  · have h2 : ¬ w = 0 := h1
    refine zaload_3_0 dX8_isMadeOf_15 ?_
    refine zg_S_42 rfl dX8_isMadeOf_16 ?_
    refine ziload_3_2 dX8_isMadeOf_19 ?_
    refine zc_S_152 rfl dX8_isMadeOf_20 (by decide) (Nat.le_of_ble_eq_true rfl) (sp_Notions_has M a ha) (fun r20 M20 hq20 => ?_)
    refine z_withR (fun hR => ?_)
    obtain ⟨rfl, rfl⟩ := hq20
    refine z_zret rfl (by split <;> omega) ?_ dX8_isMadeOf_23
    exact ⟨rfl, by simp [h2]⟩
  · have h2 : w = 0 := h1
    refine zaload_3_0 dX8_isMadeOf_4 ?_
    refine zg_S_10 rfl dX8_isMadeOf_5 ?_
    refine ziload_3_2 dX8_isMadeOf_8 ?_
    refine zc_S_72 rfl dX8_isMadeOf_9 (by decide) (Nat.le_of_ble_eq_true rfl) (sp_Terms_has M a ha) (fun r9 M9 hq9 => ?_)
    refine z_withR (fun hR => ?_)
    obtain ⟨rfl, rfl⟩ := hq9
    refine z_goto (tgt := 23) dX8_isMadeOf_12 (by decide) ?_
    refine z_zret rfl (by split <;> omega) ?_ dX8_isMadeOf_23
    exact ⟨rfl, by simp [h2]⟩
