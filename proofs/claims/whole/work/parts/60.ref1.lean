/-! the reference -/
def pz (p : Nat) : Nat := if p = 0 then 1 else if p < 17 then 2 else 3
def pb (n : Nat) : Nat := if n = 1 then 0 else if n = 2 then 1 else 17
def pq (p : Nat) : Nat := p - pb (pz p)
theorem pz_ok (p : Nat) : okn (pz p) := by unfold pz okn; (repeat' split) <;> omega
theorem pq_at {p : Nat} : pb (pz p) ≤ p ∧ pb (pz p) + pq p = p := by
  unfold pq pb pz
  (repeat' split) <;> omega
theorem pq_lt {p : Nat} (h : p < 19700) : pq p < cN (pz p) := by
  unfold pq pb pz cN
  (repeat' split) <;> omega
theorem pz_of {n k : Nat} (hn : okn n) (hk : k < cN n) : pz (pb n + k) = n ∧ pq (pb n + k) = k ∧ pb n + k < 19700 := by
  rcases hn with rfl | rfl | rfl
  · have h : k < 1 := hk
    refine ⟨?_, ?_, ?_⟩ <;> unfold pb <;> simp only <;> (try unfold pq pz pb) <;> (try unfold pz) <;> (try simp) <;> omega
  · have h : k < 16 := hk
    have e : pz (pb 2 + k) = 2 := by show pz (1 + k) = 2; unfold pz; rw [if_neg (by omega), if_pos (by omega)]
    refine ⟨e, ?_, ?_⟩
    · unfold pq; rw [e]; omega
    · show 1 + k < 19700; omega
  · have h : k < 19683 := hk
    have e : pz (pb 3 + k) = 3 := by show pz (17 + k) = 3; unfold pz; rw [if_neg (by omega), if_neg (by omega)]
    refine ⟨e, ?_, ?_⟩
    · unfold pq; rw [e]; omega
    · show 17 + k < 19700; omega
theorem or_01 {r : Int} {p : Prop} (h : (r = 1 ∧ p) ∨ (r = 0 ∧ ¬ p)) : r = 0 ∨ r = 1 := h.elim (fun z => Or.inr z.1) (fun z => Or.inl z.1)
theorem sp_Model_in (M : zMem) (v a b : Int) (hv : zrng v) (ha : zrng a) (hb : zrng b) : zSp zd_Model_in 0 [zl v, zl a, zl b] M (fun r M' => M' = M ∧ r = if a ≤ v ∧ v ≤ b then 1 else 0) := by
  refine zSp_in 0 [some (zl v), none, some (zl a), none, some (zl b), none] rfl rfl (by decide +kernel) rfl ?_
  refine z_withR (fun hR => ?_)
  refine z_lload_n rfl dX9_in_0 rfl rfl ?_
  refine z_lload_n rfl dX9_in_1 rfl rfl ?_
  refine z_lcmp (by unfold zrngL; omega) (by unfold zrngL; omega) dX9_in_2 ?_
  refine z_if_lt (tgt := 17) (by (repeat' split) <;> decide) dX9_in_3 (by decide) (fun h3 => ?_) (fun h3 => ?_)
  · have z : v < a := by (repeat' split at h3) <;> omega
    refine z_iconst dX9_in_17 ?_
    refine z_zret rfl (by omega) ?_ dX9_in_18
    first
      | (rw [if_pos (show a ≤ v ∧ v ≤ b by omega)]; exact ⟨rfl, rfl⟩)
      | (rw [if_neg (show ¬ (a ≤ v ∧ v ≤ b) by omega)]; exact ⟨rfl, rfl⟩)
  · have z : a ≤ v := by (repeat' split at h3) <;> omega
    refine z_lload_n rfl dX9_in_6 rfl rfl ?_
    refine z_lload dX9_in_7 rfl rfl ?_
    refine z_lcmp (by unfold zrngL; omega) (by unfold zrngL; omega) dX9_in_9 ?_
    refine z_if_gt (tgt := 17) (by (repeat' split) <;> decide) dX9_in_10 (by decide) (fun h10 => ?_) (fun h10 => ?_)
    · have z2 : b < v := by (repeat' split at h10) <;> omega
      refine z_iconst dX9_in_17 ?_
      refine z_zret rfl (by omega) ?_ dX9_in_18
      first
        | (rw [if_pos (show a ≤ v ∧ v ≤ b by omega)]; exact ⟨rfl, rfl⟩)
        | (rw [if_neg (show ¬ (a ≤ v ∧ v ≤ b) by omega)]; exact ⟨rfl, rfl⟩)
    · have z2 : v ≤ b := by (repeat' split at h10) <;> omega
      refine z_iconst dX9_in_13 ?_
      refine z_goto (tgt := 18) dX9_in_14 (by decide) ?_
      refine z_zret rfl (by omega) ?_ dX9_in_18
      first
        | (rw [if_pos (show a ≤ v ∧ v ≤ b by omega)]; exact ⟨rfl, rfl⟩)
        | (rw [if_neg (show ¬ (a ≤ v ∧ v ≤ b) by omega)]; exact ⟨rfl, rfl⟩)
theorem sp_Model_isTerm (M : zMem) (t : Int) (T : Nat) (ht : zrng t) (hT : M 9 0 = T) (hT2 : T ≤ 20) : zSp zd_Model_isTerm 1 [zr 9, zi t] M (fun r M' => M' = M ∧ r = if inR t T then 1 else 0) := by
  refine zSp_in 0 [some (zr 9), some (zi t)] rfl rfl (by decide +kernel) rfl ?_
  refine z_withR (fun hR => ?_)
  refine ziload_2_1 dX9_isTerm_0 ?_
  refine z_i2l (by first | omega | exact hR.1 _ _ (by decide) | exact zrng_toInt _) dX9_isTerm_1 ?_
  refine z_lconst 0 dX9_isTerm_2 rfl ?_
  refine zaload_2_0 dX9_isTerm_3 ?_
  refine zg_Model_7 rfl dX9_isTerm_4 ?_
  refine z_top hT ?_
  refine z_iconst dX9_isTerm_7 ?_
  refine z_isub dX9_isTerm_8 ?_
  refine z_i2l (by first | omega | exact hR.1 _ _ (by decide) | exact zrng_toInt _) dX9_isTerm_9 ?_
  refine zc_Model_105 rfl dX9_isTerm_10 (by decide) (Nat.le_of_ble_eq_true rfl) (sp_Model_in M t 0 ((T : Int) - 1) ht (by decide) (by unfold zrng; omega)) (fun r10 M10 hq10 => ?_)
  refine z_withR (fun hR => ?_)
  have e10 := hq10.1.symm
  subst e10
  have q10 := hq10.2
  refine z_zret rfl (or_01 (or_if q10)) ?_ dX9_isTerm_13
  refine ⟨rfl, ?_⟩
  rw [q10]
  by_cases z : inR t T
  · rw [if_pos z, if_pos (by omega)]
  · rw [if_neg z, if_neg (by omega)]
theorem sp_Model_isNotion (M : zMem) (t : Int) (T : Nat) (ht : zrng t) (hT : M 9 18 = T) (hT2 : T ≤ 20) : zSp zd_Model_isNotion 1 [zr 9, zi t] M (fun r M' => M' = M ∧ r = if inR t T then 1 else 0) := by
  refine zSp_in 0 [some (zr 9), some (zi t)] rfl rfl (by decide +kernel) rfl ?_
  refine z_withR (fun hR => ?_)
  refine ziload_2_1 dX9_isNotion_0 ?_
  refine z_i2l (by first | omega | exact hR.1 _ _ (by decide) | exact zrng_toInt _) dX9_isNotion_1 ?_
  refine z_lconst 0 dX9_isNotion_2 rfl ?_
  refine zaload_2_0 dX9_isNotion_3 ?_
  refine zg_Model_187 rfl dX9_isNotion_4 ?_
  refine z_top hT ?_
  refine z_iconst dX9_isNotion_7 ?_
  refine z_isub dX9_isNotion_8 ?_
  refine z_i2l (by first | omega | exact hR.1 _ _ (by decide) | exact zrng_toInt _) dX9_isNotion_9 ?_
  refine zc_Model_105 rfl dX9_isNotion_10 (by decide) (Nat.le_of_ble_eq_true rfl) (sp_Model_in M t 0 ((T : Int) - 1) ht (by decide) (by unfold zrng; omega)) (fun r10 M10 hq10 => ?_)
  refine z_withR (fun hR => ?_)
  have e10 := hq10.1.symm
  subst e10
  have q10 := hq10.2
  refine z_zret rfl (or_01 (or_if q10)) ?_ dX9_isNotion_13
  refine ⟨rfl, ?_⟩
  rw [q10]
  by_cases z : inR t T
  · rw [if_pos z, if_pos (by omega)]
  · rw [if_neg z, if_neg (by omega)]
theorem sp_Model_isSize (M : zMem) (n : Int) (hn : zrng n) : zSp zd_Model_isSize 1 [zi n] M (fun r M' => M' = M ∧ r = if 1 ≤ n ∧ n ≤ 3 then 1 else 0) := by
  refine zSp_in 0 [some (zi n)] rfl rfl (by decide +kernel) rfl ?_
  refine z_withR (fun hR => ?_)
  refine ziload_1_0 dX9_isSize_0 ?_
  refine z_i2l (by first | omega | exact hR.1 _ _ (by decide) | exact zrng_toInt _) dX9_isSize_1 ?_
  refine z_lconst 1 dX9_isSize_2 rfl ?_
  refine zk_Model_167 rfl dX9_isSize_3 ?_
  refine zc_Model_105 rfl dX9_isSize_6 (by decide) (Nat.le_of_ble_eq_true rfl) (sp_Model_in M n 1 3 hn (by decide) (by decide)) (fun r6 M6 hq6 => ?_)
  refine z_withR (fun hR => ?_)
  have e6 := hq6.1.symm
  subst e6
  have q6 := hq6.2
  refine z_zret rfl (or_01 (or_if q6)) ?_ dX9_isSize_9
  exact ⟨rfl, q6⟩
theorem sp_Model_countOf (M : zMem) (n : Nat) (hn : okn n) : zSp zd_Model_countOf 0 [zi n] M (fun r M' => M' = M ∧ r = cN n) := by
  refine zSp_in 0 [some (zi n)] rfl rfl (by decide +kernel) rfl ?_
  refine z_withR (fun hR => ?_)
  have hn3 := hn.le
  refine ziload_1_0 dX9_countOf_0 ?_
  refine z_iconst dX9_countOf_1 ?_
  refine z_icmp_ne (tgt := 9) (by first | omega | exact hR.1 _ _ (by decide) | exact zrng_toInt _) (by first | omega | exact hR.1 _ _ (by decide) | exact zrng_toInt _) dX9_countOf_2 (by decide) (fun h2 => ?_) (fun h2 => ?_)
  · refine ziload_1_0 dX9_countOf_9 ?_
    refine z_iconst dX9_countOf_10 ?_
    refine z_icmp_ne (tgt := 19) (by first | omega | exact hR.1 _ _ (by decide) | exact zrng_toInt _) (by first | omega | exact hR.1 _ _ (by decide) | exact zrng_toInt _) dX9_countOf_11 (by decide) (fun h11 => ?_) (fun h11 => ?_)
    · refine z_sipush dX9_countOf_19 (by decide) ?_
      refine z_iret rfl ?_ dX9_countOf_22
      refine ⟨rfl, ?_⟩
      unfold cN
      first
        | rw [if_pos (by omega)]; rfl
        | rw [if_neg (by omega), if_pos (by omega)]; rfl
        | rw [if_neg (by omega), if_neg (by omega)]; rfl
    · refine z_bipush dX9_countOf_14 (by decide) ?_
      refine z_goto (tgt := 22) dX9_countOf_16 (by decide) ?_
      refine z_iret rfl ?_ dX9_countOf_22
      refine ⟨rfl, ?_⟩
      unfold cN
      first
        | rw [if_pos (by omega)]; rfl
        | rw [if_neg (by omega), if_pos (by omega)]; rfl
        | rw [if_neg (by omega), if_neg (by omega)]; rfl
  · refine z_iconst dX9_countOf_5 ?_
    refine z_goto (tgt := 22) dX9_countOf_6 (by decide) ?_
    refine z_iret rfl ?_ dX9_countOf_22
    refine ⟨rfl, ?_⟩
    unfold cN
    first
      | rw [if_pos (by omega)]; rfl
      | rw [if_neg (by omega), if_pos (by omega)]; rfl
      | rw [if_neg (by omega), if_neg (by omega)]; rfl
theorem sp_Model_baseOf (M : zMem) (n : Nat) (hn : okn n) : zSp zd_Model_baseOf 0 [zi n] M (fun r M' => M' = M ∧ r = pb n) := by
  refine zSp_in 0 [some (zi n)] rfl rfl (by decide +kernel) rfl ?_
  refine z_withR (fun hR => ?_)
  have hn3 := hn.le
  refine ziload_1_0 dX9_baseOf_0 ?_
  refine z_iconst dX9_baseOf_1 ?_
  refine z_icmp_ne (tgt := 9) (by first | omega | exact hR.1 _ _ (by decide) | exact zrng_toInt _) (by first | omega | exact hR.1 _ _ (by decide) | exact zrng_toInt _) dX9_baseOf_2 (by decide) (fun h2 => ?_) (fun h2 => ?_)
  · refine ziload_1_0 dX9_baseOf_9 ?_
    refine z_iconst dX9_baseOf_10 ?_
    refine z_icmp_ne (tgt := 18) (by first | omega | exact hR.1 _ _ (by decide) | exact zrng_toInt _) (by first | omega | exact hR.1 _ _ (by decide) | exact zrng_toInt _) dX9_baseOf_11 (by decide) (fun h11 => ?_) (fun h11 => ?_)
    · refine z_bipush dX9_baseOf_18 (by decide) ?_
      refine z_iret rfl ?_ dX9_baseOf_20
      refine ⟨rfl, ?_⟩
      unfold pb
      first
        | rw [if_pos (by omega)]; rfl
        | rw [if_neg (by omega), if_pos (by omega)]; rfl
        | rw [if_neg (by omega), if_neg (by omega)]; rfl
    · refine z_iconst dX9_baseOf_14 ?_
      refine z_goto (tgt := 20) dX9_baseOf_15 (by decide) ?_
      refine z_iret rfl ?_ dX9_baseOf_20
      refine ⟨rfl, ?_⟩
      unfold pb
      first
        | rw [if_pos (by omega)]; rfl
        | rw [if_neg (by omega), if_pos (by omega)]; rfl
        | rw [if_neg (by omega), if_neg (by omega)]; rfl
  · refine z_iconst dX9_baseOf_5 ?_
    refine z_goto (tgt := 20) dX9_baseOf_6 (by decide) ?_
    refine z_iret rfl ?_ dX9_baseOf_20
    refine ⟨rfl, ?_⟩
    unfold pb
    first
      | rw [if_pos (by omega)]; rfl
      | rw [if_neg (by omega), if_pos (by omega)]; rfl
      | rw [if_neg (by omega), if_neg (by omega)]; rfl
theorem sp_Model_sizeAt (M : zMem) (p : Nat) (hp : p < 19700) : zSp zd_Model_sizeAt 0 [zi p] M (fun r M' => M' = M ∧ r = pz p) := by
  refine zSp_in 0 [some (zi p)] rfl rfl (by decide +kernel) rfl ?_
  refine z_withR (fun hR => ?_)
  refine ziload_1_0 dX9_sizeAt_0 ?_
  refine z_if_ne (tgt := 8) (by first | omega | exact hR.1 _ _ (by decide) | exact zrng_toInt _) dX9_sizeAt_1 (by decide) (fun h1 => ?_) (fun h1 => ?_)
  · refine ziload_1_0 dX9_sizeAt_8 ?_
    refine z_bipush dX9_sizeAt_9 (by decide) ?_
    refine z_icmp_ge (tgt := 18) (by first | omega | exact hR.1 _ _ (by decide) | exact zrng_toInt _) (by first | omega | exact hR.1 _ _ (by decide) | exact zrng_toInt _) dX9_sizeAt_11 (by decide) (fun h11 => ?_) (fun h11 => ?_)
    · refine z_iconst dX9_sizeAt_18 ?_
      refine z_iret rfl ?_ dX9_sizeAt_19
      refine ⟨rfl, ?_⟩
      unfold pz
      first
        | rw [if_pos (by omega)]; rfl
        | rw [if_neg (by omega), if_pos (by omega)]; rfl
        | rw [if_neg (by omega), if_neg (by omega)]; rfl
    · refine z_iconst dX9_sizeAt_14 ?_
      refine z_goto (tgt := 19) dX9_sizeAt_15 (by decide) ?_
      refine z_iret rfl ?_ dX9_sizeAt_19
      refine ⟨rfl, ?_⟩
      unfold pz
      first
        | rw [if_pos (by omega)]; rfl
        | rw [if_neg (by omega), if_pos (by omega)]; rfl
        | rw [if_neg (by omega), if_neg (by omega)]; rfl
  · refine z_iconst dX9_sizeAt_4 ?_
    refine z_goto (tgt := 19) dX9_sizeAt_5 (by decide) ?_
    refine z_iret rfl ?_ dX9_sizeAt_19
    refine ⟨rfl, ?_⟩
    unfold pz
    first
      | rw [if_pos (by omega)]; rfl
      | rw [if_neg (by omega), if_pos (by omega)]; rfl
      | rw [if_neg (by omega), if_neg (by omega)]; rfl
theorem sp_Model_isWorldOf (M : zMem) (n k : Int) (hn : zrng n) (hk : zrng k) : zSp zd_Model_isWorldOf 2 [zi n, zi k] M (fun r M' => M' = M ∧ r = if isW n k then 1 else 0) := by
  refine zSp_in 0 [some (zi n), some (zi k)] rfl rfl (by decide +kernel) rfl ?_
  refine z_withR (fun hR => ?_)
  refine ziload_2_0 dX9_isWorldOf_0 ?_
  refine zc_Model_169 rfl dX9_isWorldOf_1 (by decide) (Nat.le_of_ble_eq_true rfl) (sp_Model_isSize M n hn) (fun r1 M1 hq1 => ?_)
  refine z_withR (fun hR => ?_)
  have e1 := hq1.1.symm
  subst e1
  have q1 := hq1.2
  have q1 := or_if q1
  refine z_if_eq (tgt := 27) (or_rng q1) dX9_isWorldOf_4 (by decide) (fun h4 => ?_) (fun h4 => ?_)
  · have y := or_no q1 h4
    refine z_iconst dX9_isWorldOf_27 ?_
    refine z_zret rfl (by omega) ?_ dX9_isWorldOf_28
    refine ⟨rfl, ?_⟩
    first
      | (rw [if_pos (show isW (n' : Int) k from ⟨y, by omega, by rw [Int.toNat_natCast]; omega⟩)]; done)
      | (rw [if_neg (fun z => y z.1)]; done)
      | (rw [if_neg (fun z => y2 ⟨z.2.1, by have := z.2.2; rw [Int.toNat_natCast] at this; omega⟩)]; done)
  · have y := or_yes q1 h4
    obtain ⟨n', rfl⟩ : ∃ n' : Nat, n = n' := ⟨n.toNat, by omega⟩
    have hn' : okn n' := by unfold okn; omega
    have hc : cN n' ≤ 19683 ∧ 1 ≤ cN n' := by rcases hn' with rfl | rfl | rfl <;> decide
    refine ziload_2_1 dX9_isWorldOf_7 ?_
    refine z_i2l (by first | omega | exact hR.1 _ _ (by decide) | exact zrng_toInt _) dX9_isWorldOf_8 ?_
    refine z_lconst 0 dX9_isWorldOf_9 rfl ?_
    refine ziload_2_0 dX9_isWorldOf_10 ?_
    refine zc_Model_172 rfl dX9_isWorldOf_11 (by decide) (Nat.le_of_ble_eq_true rfl) (sp_Model_countOf M n' hn') (fun r11 M11 hq11 => ?_)
    refine z_withR (fun hR => ?_)
    have e11 := hq11.1.symm
    subst e11
    have q11 := hq11.2
    subst q11
    refine z_iconst dX9_isWorldOf_14 ?_
    refine z_isub dX9_isWorldOf_15 ?_
    refine z_i2l (by first | omega | exact hR.1 _ _ (by decide) | exact zrng_toInt _) dX9_isWorldOf_16 ?_
    refine zc_Model_105 rfl dX9_isWorldOf_17 (by decide) (Nat.le_of_ble_eq_true rfl) (sp_Model_in M k 0 ((cN n' : Int) - 1) hk (by decide) (by unfold zrng; omega)) (fun r17 M17 hq17 => ?_)
    refine z_withR (fun hR => ?_)
    have e17 := hq17.1.symm
    subst e17
    have q17 := hq17.2
    have q17 := or_if q17
    refine z_if_eq (tgt := 27) (or_rng q17) dX9_isWorldOf_20 (by decide) (fun h20 => ?_) (fun h20 => ?_)
    · have y2 := or_no q17 h20
      refine z_iconst dX9_isWorldOf_27 ?_
      refine z_zret rfl (by omega) ?_ dX9_isWorldOf_28
      refine ⟨rfl, ?_⟩
      first
        | (rw [if_pos (show isW (n' : Int) k from ⟨y, by omega, by rw [Int.toNat_natCast]; omega⟩)]; done)
        | (rw [if_neg (fun z => y z.1)]; done)
        | (rw [if_neg (fun z => y2 ⟨z.2.1, by have := z.2.2; rw [Int.toNat_natCast] at this; omega⟩)]; done)
    · have y2 := or_yes q17 h20
      refine z_iconst dX9_isWorldOf_23 ?_
      refine z_goto (tgt := 28) dX9_isWorldOf_24 (by decide) ?_
      refine z_zret rfl (by omega) ?_ dX9_isWorldOf_28
      refine ⟨rfl, ?_⟩
      first
        | (rw [if_pos (show isW (n' : Int) k from ⟨y, by omega, by rw [Int.toNat_natCast]; omega⟩)]; done)
        | (rw [if_neg (fun z => y z.1)]; done)
        | (rw [if_neg (fun z => y2 ⟨z.2.1, by have := z.2.2; rw [Int.toNat_natCast] at this; omega⟩)]; done)
/-- a world lies in the reference's table -/
def tbR (M : zMem) (n k : Nat) : Prop := M 9 8 = n ∧ ∀ j, j < n * n → M 40 j = dg n k j
theorem sp_Model_layWorld (M : zMem) (p : Nat) (hp : p < 19700) : zSp zd_Model_layWorld 1 [zr 9, zi p] M (fun _ M' => zfr [9, 40] M M' ∧ (∀ i, i ≠ 8 → M' 9 i = M 9 i) ∧ tbR M' (pz p) (pq p)) := by
  refine zSp_in 2 [some (zr 9), some (zi p), none, none] rfl rfl (by decide +kernel) rfl ?_
  refine z_withR (fun hR => ?_)
  obtain ⟨n, en⟩ : ∃ n, n = pz p := ⟨_, rfl⟩
  obtain ⟨k, ek⟩ : ∃ k, k = pq p := ⟨_, rfl⟩
  have hn : okn n := by rw [en]; exact pz_ok p
  have hpa := pq_at (p := p)
  rw [← en, ← ek] at hpa
  have hn3 := hn.le
  have hn0 := hn.pos
  have hq := sq_le hn
  rw [← en, ← ek]
  have loop : ∀ (m : Nat) (M1 : zMem), m ≤ n * n → zfr [9, 40] M M1 → (∀ i, i ≠ 8 → M1 9 i = M 9 i) → M1 9 8 = n → (∀ j, m ≤ j → j < n * n → M1 40 j = dg n k j) → zV zd_Model_layWorld 1 30 [some (zr 9), some (zi p), some (zi ((k / n ^ (n * n - m) : Nat) : Int)), some (zi ((m : Int) - 1))] [] M1 (fun _ M' => zfr [9, 40] M M' ∧ (∀ i, i ≠ 8 → M' 9 i = M 9 i) ∧ tbR M' n k) := by
    intro m
    induction m with
    | zero =>
      intro M1 hm hf h9 hs hc
      refine z_withR (fun hR => ?_)
      refine ziload_4_3 dX9_layWorld_30 ?_
      refine z_if_lt (tgt := 59) (by first | omega | exact hR.1 _ _ (by decide) | exact zrng_toInt _) dX9_layWorld_31 (by decide) (fun h31 => ?_) (fun h31 => ?_)
      · refine z_vret rfl ?_ dX9_layWorld_59
        exact ⟨hf, h9, hs, fun j hj => hc j (Nat.zero_le _) hj⟩
      · omega
    | succ m ih =>
      intro M1 hm hf h9 hs hc
      refine z_withR (fun hR => ?_)
      have hb : k / n ^ (n * n - (m + 1)) < 2147483648 := Nat.lt_of_le_of_lt (Nat.div_le_self _ _) (by omega)
      have e1 : k / n ^ (n * n - (m + 1)) / n = k / n ^ (n * n - m) := by
        rw [Nat.div_div_eq_div_mul, ← Nat.pow_succ, show (n * n - (m + 1)).succ = n * n - m by omega]
      have e2 : k / n ^ (n * n - (m + 1)) % n = dg n k m := by unfold dg; rw [show n * n - 1 - m = n * n - (m + 1) by omega]
      have hd := dg_lt (n := n) (k := k) (j := m) hn0
      have hs2 : zmu M1 40 m ((dg n k m : Nat) : Int) 9 8 = n := by rw [zmu_other _ _ _ _ (by decide)]; exact hs
      rw [show ((m + 1 : Nat) : Int) - 1 = (m : Int) by omega]
      generalize k / n ^ (n * n - (m + 1)) = Q at hb e1 e2 ⊢
      refine ziload_4_3 dX9_layWorld_30 ?_
      refine z_if_lt (tgt := 59) (by first | omega | exact hR.1 _ _ (by decide) | exact zrng_toInt _) dX9_layWorld_31 (by decide) (fun h31 => ?_) (fun h31 => ?_)
      · omega
      · refine zaload_4_0 dX9_layWorld_34 ?_
        refine zg_Model_29 rfl dX9_layWorld_35 ?_
        refine ziload_4_3 dX9_layWorld_38 ?_
        refine ziload_4_2 dX9_layWorld_39 ?_
        refine zaload_4_0 dX9_layWorld_40 ?_
        refine zg_Model_124 rfl dX9_layWorld_41 ?_
        refine z_top hs ?_
        refine z_irem (by omega) (by omega) dX9_layWorld_44 ?_
        refine z_top (y := ((dg n k m : Nat) : Int)) (by rw [← e2]; rfl) ?_
        refine z_iast (m) (by decide) rfl (by decide) (by decide) (by omega) (by omega) (by first | omega | exact hR.1 _ _ (by decide) | exact zrng_toInt _) dX9_layWorld_45 ?_
        refine z_withR (fun hR => ?_)
        refine ziload_4_2 dX9_layWorld_46 ?_
        refine zaload_4_0 dX9_layWorld_47 ?_
        refine zg_Model_124 rfl dX9_layWorld_48 ?_
        refine z_top hs2 ?_
        refine z_idiv (by omega) (by omega) dX9_layWorld_51 ?_
        refine z_top (y := ((k / n ^ (n * n - m) : Nat) : Int)) (by rw [← e1]; rfl) ?_
        refine zistore_4_2 dX9_layWorld_52 ?_
        refine ziinc_4_3 dX9_layWorld_53 ?_
        refine z_goto (tgt := 30) dX9_layWorld_56 (by decide) ?_
        refine ih _ (by omega) (hf.mu (by decide)) (fun i hi => by rw [zmu_other _ _ _ _ (by decide)]; exact h9 i hi) (by rw [zmu_other _ _ _ _ (by decide)]; exact hs) (fun j h1 h2 => ?_)
        rcases Nat.lt_or_ge m j with q | q
        · rw [zmu_ne _ _ _ _ (by omega)]; exact hc j (by omega) h2
        · rw [show j = m by omega, zmu_same]
  refine zaload_4_0 dX9_layWorld_0 ?_
  refine ziload_4_1 dX9_layWorld_1 ?_
  refine zc_Model_120 rfl dX9_layWorld_2 (by decide) (Nat.le_of_ble_eq_true rfl) (sp_Model_sizeAt M p hp) (fun r2 M2 hq2 => ?_)
  refine z_withR (fun hR => ?_)
  have e2 := hq2.1.symm
  subst e2
  have q2 := hq2.2
  rw [← en] at q2
  subst q2
  refine zp_Model_124 rfl (by first | omega | exact hR.1 _ _ (by decide) | exact zrng_toInt _) dX9_layWorld_5 ?_
  refine z_withR (fun hR => ?_)
  have hsz : zmu M 9 8 n 9 8 = n := zmu_same _ _ _ _
  refine ziload_4_1 dX9_layWorld_8 ?_
  refine zaload_4_0 dX9_layWorld_9 ?_
  refine zg_Model_124 rfl dX9_layWorld_10 ?_
  refine z_top hsz ?_
  refine zc_Model_127 rfl dX9_layWorld_13 (by decide) (Nat.le_of_ble_eq_true rfl) (sp_Model_baseOf _ n hn) (fun r13 M13 hq13 => ?_)
  refine z_withR (fun hR => ?_)
  have e13 := hq13.1.symm
  subst e13
  have q13 := hq13.2
  subst q13
  refine z_isub dX9_layWorld_16 ?_
  refine z_top (y := (k : Int)) (by omega) ?_
  refine zistore_4_2 dX9_layWorld_17 ?_
  refine zaload_4_0 dX9_layWorld_18 ?_
  refine zg_Model_124 rfl dX9_layWorld_19 ?_
  refine z_top hsz ?_
  refine zaload_4_0 dX9_layWorld_22 ?_
  refine zg_Model_124 rfl dX9_layWorld_23 ?_
  refine z_top hsz ?_
  refine z_imul dX9_layWorld_26 ?_
  refine z_top (y := ((n * n : Nat) : Int)) (by omega) ?_
  refine z_iconst dX9_layWorld_27 ?_
  refine z_isub dX9_layWorld_28 ?_
  refine zistore_4_3 dX9_layWorld_29 ?_
  have e0 : k = k / n ^ (n * n - n * n) := by simp
  have := loop (n * n) (zmu M 9 8 n) (Nat.le_refl _) (zfr.rf.mu (by decide)) (fun i hi => zmu_ne _ _ _ _ hi) hsz (fun j h1 h2 => by omega)
  rw [← e0] at this
  exact this
