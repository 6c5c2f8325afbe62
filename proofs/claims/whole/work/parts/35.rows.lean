theorem z_topl {μ : zD} {d pc : Nat} {ls : List (Option zAV)} {st : List zAV} {M : zMem} {post : Int → zMem → Prop} {x y : Int} (h : x = y) (k : zV μ d pc ls (zl y :: st) M post) : zV μ d pc ls (zl x :: st) M post := by rw [h]; exact k
def bcE (a : Int) : Int :=
  let x1 := a - zAnd (zUshr a 1) 1431655765
  let x2 := zAnd x1 858993459 + zAnd (zUshr x1 2) 858993459
  let x3 := zAnd (x2 + zUshr x2 4) 252645135
  let x4 := x3 + zUshr x3 8
  let x5 := x4 + zUshr x4 16
  zAnd x5 63
theorem bcE_ok : ∀ a, a < 512 → bcE (a : Nat) = fb_ct (fun i => a.testBit i) 9 := by decide +kernel
theorem fb_ct_ext9 (f : Nat → Bool) : ∀ m, m ≤ 9 → fb_ct (fun i => decide (i < m) && f i) 9 = fb_ct f m := by
  intro m hm
  have h := fb_ct_split (fun i => decide (i < m) && f i) m (9 - m)
  rw [show m + (9 - m) = 9 by omega] at h
  have h1 : fb_ct (fun i => decide (i < m) && f i) m = fb_ct f m := fb_ct_cong (fun k hk => by simp [hk])
  have h2 : fb_ct (fun k => decide (m + k < m) && f (m + k)) (9 - m) = 0 := fb_ct_zero.mpr (fun k hk => by
    have h3 : ¬ m + k < m := by omega
    simp [h3])
  rw [h, h1, h2, Nat.add_zero]
theorem sp_Integer_bitCount (M : zMem) (f : Nat → Bool) (m : Nat) (hm : m ≤ 9) : zSp zd_Integer_bitCount 0 [zi (bm f m)] M (fun r M' => M' = M ∧ r = fb_ct f m) := by
  refine zSp_in 0 [some (zi (bm f m))] rfl rfl (by decide +kernel) rfl ?_
  refine z_withR (fun hR => ?_)
  have hlt : bm f m < 512 := Nat.lt_of_lt_of_le (bm_lt f m) (Nat.le_trans (Nat.pow_le_pow_right (by decide) hm) (by decide))
  have h := bcE_ok _ hlt
  rw [fb_ct_cong (q := fun i => decide (i < m) && f i) (fun k _ => bm_bit f m k), fb_ct_ext9 f m hm] at h
  refine ziload_1_0 dJ6_bitCount_0f7a4_0 ?_
  refine ziload_1_0 dJ6_bitCount_0f7a4_1 ?_
  refine z_iconst dJ6_bitCount_0f7a4_2 ?_
  refine z_iushr dJ6_bitCount_0f7a4_3 ?_
  refine zk_Integer_265 rfl dJ6_bitCount_0f7a4_4 ?_
  refine z_iand dJ6_bitCount_0f7a4_7 ?_
  refine z_isub dJ6_bitCount_0f7a4_8 ?_
  refine zistore_1_0 dJ6_bitCount_0f7a4_9 ?_
  refine ziload_1_0 dJ6_bitCount_0f7a4_10 ?_
  refine zk_Integer_266 rfl dJ6_bitCount_0f7a4_11 ?_
  refine z_iand dJ6_bitCount_0f7a4_14 ?_
  refine ziload_1_0 dJ6_bitCount_0f7a4_15 ?_
  refine z_iconst dJ6_bitCount_0f7a4_16 ?_
  refine z_iushr dJ6_bitCount_0f7a4_17 ?_
  refine zk_Integer_266 rfl dJ6_bitCount_0f7a4_18 ?_
  refine z_iand dJ6_bitCount_0f7a4_21 ?_
  refine z_iadd dJ6_bitCount_0f7a4_22 ?_
  refine zistore_1_0 dJ6_bitCount_0f7a4_23 ?_
  refine ziload_1_0 dJ6_bitCount_0f7a4_24 ?_
  refine ziload_1_0 dJ6_bitCount_0f7a4_25 ?_
  refine z_iconst dJ6_bitCount_0f7a4_26 ?_
  refine z_iushr dJ6_bitCount_0f7a4_27 ?_
  refine z_iadd dJ6_bitCount_0f7a4_28 ?_
  refine zk_Integer_267 rfl dJ6_bitCount_0f7a4_29 ?_
  refine z_iand dJ6_bitCount_0f7a4_32 ?_
  refine zistore_1_0 dJ6_bitCount_0f7a4_33 ?_
  refine ziload_1_0 dJ6_bitCount_0f7a4_34 ?_
  refine ziload_1_0 dJ6_bitCount_0f7a4_35 ?_
  refine z_bipush dJ6_bitCount_0f7a4_36 (by decide) ?_
  refine z_iushr dJ6_bitCount_0f7a4_38 ?_
  refine z_iadd dJ6_bitCount_0f7a4_39 ?_
  refine zistore_1_0 dJ6_bitCount_0f7a4_40 ?_
  refine ziload_1_0 dJ6_bitCount_0f7a4_41 ?_
  refine ziload_1_0 dJ6_bitCount_0f7a4_42 ?_
  refine z_bipush dJ6_bitCount_0f7a4_43 (by decide) ?_
  refine z_iushr dJ6_bitCount_0f7a4_45 ?_
  refine z_iadd dJ6_bitCount_0f7a4_46 ?_
  refine zistore_1_0 dJ6_bitCount_0f7a4_47 ?_
  refine ziload_1_0 dJ6_bitCount_0f7a4_48 ?_
  refine z_bipush dJ6_bitCount_0f7a4_49 (by decide) ?_
  refine z_iand dJ6_bitCount_0f7a4_51 ?_
  refine z_iret rfl ?_ dJ6_bitCount_0f7a4_52
  exact ⟨rfl, h⟩
theorem sp_Rows_has (M : zMem) (t : Int) (ht : zrng t) : zSp zd_Rows_has 0 [zr 6, zi t] M (fun r M' => M' = M ∧ r = if 0 ≤ t ∧ t < M 6 6 then 1 else 0) := by
  refine zSp_in 0 [some (zr 6), some (zi t)] rfl rfl (by decide +kernel) rfl ?_
  refine z_withR (fun hR => ?_)
  refine ziload_2_1 dX5_has_0 ?_
  refine z_if_lt (tgt := 16) (by first | omega | exact hR.1 _ _ (by decide) | exact zrng_toInt _) dX5_has_1 (by decide) (fun h1 => ?_) (fun h1 => ?_)
  · refine z_iconst dX5_has_16 ?_
    refine z_zret rfl (by omega) ?_ dX5_has_17
    refine ⟨rfl, ?_⟩
    split <;> omega
  · refine ziload_2_1 dX5_has_4 ?_
    refine zaload_2_0 dX5_has_5 ?_
    refine zg_Rows_18 rfl dX5_has_6 ?_
    refine z_icmp_ge (tgt := 16) (by first | omega | exact hR.1 _ _ (by decide) | exact zrng_toInt _) (by first | omega | exact hR.1 _ _ (by decide) | exact zrng_toInt _) dX5_has_9 (by decide) (fun h9 => ?_) (fun h9 => ?_)
    · refine z_iconst dX5_has_16 ?_
      refine z_zret rfl (by omega) ?_ dX5_has_17
      refine ⟨rfl, ?_⟩
      split <;> omega
    · refine z_iconst dX5_has_12 ?_
      refine z_goto (tgt := 17) dX5_has_13 (by decide) ?_
      refine z_zret rfl (by omega) ?_ dX5_has_17
      refine ⟨rfl, ?_⟩
      split <;> omega
/-! what has been seen: two words an entry -/
def dn (Ws : Nat → Nat) (e i : Nat) : Bool := (Ws (2 * e + i / 6)).testBit (54 + i % 6)
def snM (M : zMem) (Ws : Nat → Nat) : Prop := ∀ x, x < 6682 → M 29 x = Ws x
def snW (Ws : Nat → Nat) (N : Nat) (S : Nat → Nat → Nat → Bool) : Prop := (∀ x, x < 6682 → Ws x < 2 ^ 60) ∧ ∀ e, e < 3341 → ∀ i, i < 12 → (dn Ws e i = true → i < N) ∧ ∀ b, b < 9 → (Ws (2 * e + i / 6)).testBit (9 * (i % 6) + b) = (dn Ws e i && (bm (S e i) (eSz e * eSz e)).testBit b)
theorem sn_bits {Ws : Nat → Nat} {N : Nat} {S : Nat → Nat → Nat → Bool} (h : snW Ws N S) {e i : Nat} (he : e < 3341) (hi : i < 12) : Ws (2 * e + i / 6) / 2 ^ (9 * (i % 6)) % 512 = bm (fun j => dn Ws e i && S e i j) (eSz e * eSz e) := by
  have hq := sq_le (okn_eSz e)
  apply Nat.eq_of_testBit_eq
  intro b
  rw [show (512 : Nat) = 2 ^ 9 from rfl, Nat.testBit_mod_two_pow, ← Nat.shiftRight_eq_div_pow, Nat.testBit_shiftRight, bm_bit]
  by_cases hb : b < 9
  · rw [(h.2 e he i hi).2 b hb, bm_bit]
    cases dn Ws e i <;> simp [hb]
  · have : ¬ b < eSz e * eSz e := by omega
    simp [hb, this]
theorem sp_Rows_seenBits (M : zMem) (Ws : Nat → Nat) (N : Nat) (S : Nat → Nat → Nat → Bool) (i e : Nat) (hM : snM M Ws) (hW : snW Ws N S) (he : e < 3341) (hi : i < 12) : zSp zd_Rows_seenBits 0 [zr 6, zi i, zi e] M (fun r M' => M' = M ∧ r = bm (fun j => dn Ws e i && S e i j) (eSz e * eSz e)) := by
  refine zSp_in 2 [some (zr 6), some (zi i), some (zi e), none, none] rfl rfl (by decide +kernel) rfl ?_
  refine z_withR (fun hR => ?_)
  have h1 := sn_bits hW he hi
  have h2 := hW.1 (2 * e + i / 6) (by omega)
  have h3 := hM (2 * e + i / 6) (by omega)
  generalize Ws (2 * e + i / 6) = w at h1 h2 h3
  have hs : i % 6 < 6 := Nat.mod_lt _ (by decide)
  refine zaload_5_0 dX5_seenBits_0 ?_
  refine zg_Rows_34 rfl dX5_seenBits_1 ?_
  refine z_iconst dX5_seenBits_4 ?_
  refine ziload_5_2 dX5_seenBits_5 ?_
  refine z_imul dX5_seenBits_6 ?_
  refine ziload_5_1 dX5_seenBits_7 ?_
  refine z_bipush dX5_seenBits_8 (by decide) ?_
  refine z_idiv (by omega) (by omega) dX5_seenBits_10 ?_
  refine z_iadd dX5_seenBits_11 ?_
  refine z_lald (2 * e + i / 6) rfl (by decide) (by decide) (by omega) (by omega) dX5_seenBits_12 ?_
  refine z_topl h3 ?_
  refine z_lstore_n rfl dX5_seenBits_13 (Nat.le_of_ble_eq_true rfl) ?_
  try dsimp only [List.set]
  try dsimp only [List.set]
  refine z_lload_n rfl dX5_seenBits_14 rfl rfl ?_
  refine ziload_5_1 dX5_seenBits_15 ?_
  refine z_bipush dX5_seenBits_16 (by decide) ?_
  refine z_irem (by omega) (by omega) dX5_seenBits_18 ?_
  refine z_bipush dX5_seenBits_19 (by decide) ?_
  refine z_imul dX5_seenBits_21 ?_
  refine z_top (y := ((9 * (i % 6) : Nat) : Int)) (by omega) ?_
  refine z_lshr dX5_seenBits_22 ?_
  refine z_topl (zShrL_nat (a := w) (by omega) (by omega)) ?_
  refine z_l2iW dX5_seenBits_23 ?_
  refine z_sipush dX5_seenBits_24 (by decide) ?_
  refine z_iand dX5_seenBits_27 ?_
  refine z_top (zL2I_511 _) ?_
  refine z_iret rfl ?_ dX5_seenBits_28
  exact ⟨rfl, by rw [h1]⟩
/-- a word with one notion more -/
theorem sn_put {Ws : Nat → Nat} {N : Nat} {S : Nat → Nat → Nat → Bool} (h : snW Ws N S) {e i : Nat} (he : e < 3341) (hi : i < 12) (hN : i < N) (hd : dn Ws e i = false) :
    snW (fup Ws (2 * e + i / 6) (Ws (2 * e + i / 6) ||| (bm (S e i) (eSz e * eSz e) * 2 ^ (9 * (i % 6)) ||| 2 ^ (54 + i % 6)))) N S ∧ ∀ e' i', e' < 3341 → i' < 12 → dn (fup Ws (2 * e + i / 6) (Ws (2 * e + i / 6) ||| (bm (S e i) (eSz e * eSz e) * 2 ^ (9 * (i % 6)) ||| 2 ^ (54 + i % 6)))) e' i' = (dn Ws e' i' || (decide (e' = e) && decide (i' = i))) := by
  have hb9 := bm9 (okn_eSz e) (S e i) (Nat.le_refl _)
  have hs : i % 6 < 6 := Nat.mod_lt _ (by decide)
  have hbm : ∀ p, (bm (S e i) (eSz e * eSz e) * 2 ^ (9 * (i % 6))).testBit p = (decide (9 * (i % 6) ≤ p) && (bm (S e i) (eSz e * eSz e)).testBit (p - 9 * (i % 6))) := by
    intro p
    rw [← Nat.shiftLeft_eq, Nat.testBit_shiftLeft]
  have hz : ∀ q, 9 ≤ q → (bm (S e i) (eSz e * eSz e)).testBit q = false := fun q hq => Nat.testBit_lt_two_pow (Nat.lt_of_lt_of_le hb9 (show 2 ^ 9 ≤ 2 ^ q from Nat.pow_le_pow_right (by decide) hq))
  have key : ∀ e' i', e' < 3341 → i' < 12 → 2 * e' + i' / 6 = 2 * e + i / 6 → e' = e ∧ i' / 6 = i / 6 := by intros; omega
  have hdn : ∀ e' i', e' < 3341 → i' < 12 → dn (fup Ws (2 * e + i / 6) (Ws (2 * e + i / 6) ||| (bm (S e i) (eSz e * eSz e) * 2 ^ (9 * (i % 6)) ||| 2 ^ (54 + i % 6)))) e' i' = (dn Ws e' i' || (decide (e' = e) && decide (i' = i))) := by
    intro e' i' he' hi'
    have hs' : i' % 6 < 6 := Nat.mod_lt _ (by decide)
    unfold dn
    by_cases hx : 2 * e' + i' / 6 = 2 * e + i / 6
    · obtain ⟨h1, h2⟩ := key e' i' he' hi' hx
      rw [hx, fup_s, Nat.testBit_or, Nat.testBit_or, hbm, Nat.testBit_two_pow]
      rw [hz (54 + i' % 6 - 9 * (i % 6)) (by omega)]
      by_cases h3 : i' = i
      · subst h3; simp [h1]
      · have h4 : ¬ (i % 6 = i' % 6) := by omega
        simp [h3, h4]
    · rw [fup_n hx]
      have h3 : ¬ (e' = e ∧ i' = i) := fun ⟨a, b⟩ => hx (by rw [a, b])
      by_cases h4 : e' = e
      · have h5 : ¬ i' = i := fun b => h3 ⟨h4, b⟩
        simp [h5]
      · simp [h4]
  refine ⟨⟨fun x hx => ?_, fun e' he' i' hi' => ⟨fun h9 => ?_, fun b hb => ?_⟩⟩, hdn⟩
  · by_cases h1 : x = 2 * e + i / 6
    · rw [h1, fup_s]
      have p1 : bm (S e i) (eSz e * eSz e) * 2 ^ (9 * (i % 6)) < 2 ^ 60 := by
        calc bm (S e i) (eSz e * eSz e) * 2 ^ (9 * (i % 6)) < 2 ^ 9 * 2 ^ (9 * (i % 6)) := Nat.mul_lt_mul_of_pos_right hb9 (Nat.two_pow_pos _)
          _ = 2 ^ (9 + 9 * (i % 6)) := by rw [Nat.pow_add]
          _ ≤ 2 ^ 60 := Nat.pow_le_pow_right (by decide) (by omega)
      exact Nat.or_lt_two_pow (h.1 _ (by omega)) (Nat.or_lt_two_pow p1 (Nat.pow_lt_pow_right (by decide) (by omega)))
    · rw [fup_n h1]; exact h.1 x hx
  · rw [hdn e' i' he' hi'] at h9
    simp only [Bool.or_eq_true, Bool.and_eq_true, decide_eq_true_eq] at h9
    rcases h9 with h9 | ⟨-, rfl⟩
    · exact (h.2 e' he' i' hi').1 h9
    · exact hN
  · have hs' : i' % 6 < 6 := Nat.mod_lt _ (by decide)
    rw [hdn e' i' he' hi']
    by_cases hx : 2 * e' + i' / 6 = 2 * e + i / 6
    · obtain ⟨h1, h2⟩ := key e' i' he' hi' hx
      subst h1
      have hold := (h.2 e' he' i' hi').2 b hb
      rw [hx] at hold ⊢
      rw [fup_s, Nat.testBit_or, Nat.testBit_or, hold, hbm, Nat.testBit_two_pow]
      have h54 : ¬ (54 + i % 6 = 9 * (i' % 6) + b) := by omega
      by_cases h3 : i' = i
      · subst h3
        rw [hd]
        have h5 : 9 * (i' % 6) + b - 9 * (i' % 6) = b := by omega
        rw [h5]
        simp [h54]
      · rcases Nat.lt_or_ge (i' % 6) (i % 6) with q | q
        · have h6 : ¬ (9 * (i % 6) ≤ 9 * (i' % 6) + b) := by omega
          simp [h3, h54, h6]
        · rw [hz (9 * (i' % 6) + b - 9 * (i % 6)) (by omega)]
          simp [h3, h54]
    · have h3 : ¬ (e' = e ∧ i' = i) := fun ⟨a, b⟩ => hx (by rw [a, b])
      rw [fup_n hx, (h.2 e' he' i' hi').2 b hb]
      by_cases h4 : e' = e
      · have h5 : ¬ i' = i := fun b => h3 ⟨h4, b⟩
        simp [h5]
      · simp [h4]
/-- the rows of the notions in an entry's world -/
noncomputable def sE (L R W A Bb : Nat → Nat) (e i : Nat) : Nat → Bool := so L R W A Bb (eSz e) (eK e) i
theorem sp_Rows_workedOut (M : zMem) (L R W A Bb Ws : Nat → Nat) (T N i e : Nat) (hc : catF M) (hT : tmC M L R T) (hnt : ntC M T N W A Bb) (hM : snM M Ws) (hW : snW Ws N (sE L R W A Bb)) (he : e < 3341) (hi : i < N) (hd : ¬ W i = 0 → dn Ws e (A i) = true ∧ (W i = 2 → dn Ws e (Bb i) = true)) :
    zSp zd_Rows_workedOut 2 [zr 6, zi i, zi e] M (fun r M' => zfr [3, 15, 16] M M' ∧ r = bm (sE L R W A Bb e i) (eSz e * eSz e)) := by
  refine zSp_in 3 [some (zr 6), some (zi i), some (zi e), none, none, none] rfl rfl (by decide +kernel) rfl ?_
  refine z_withR (fun hR => ?_)
  obtain ⟨h56, hN, hw, hni⟩ := id hnt
  obtain ⟨⟨n1, n2, n3⟩, n4, n5⟩ := hni i hi
  have hek := eK_lt he
  have hn := okn_eSz e
  obtain ⟨w6, w0, w1⟩ := hw i hi
  have hT20 := hT.2.2.1
  have hAB : A i < 20 ∧ Bb i < 20 := by
    by_cases h : W i = 0
    · have := w0 h; omega
    · have := w1 h; omega
  refine zaload_6_0 dX5_workedOut_0 ?_
  refine zg_Rows_51 rfl dX5_workedOut_1 ?_
  refine ziload_6_2 dX5_workedOut_4 ?_
  refine zc_Rows_78 rfl dX5_workedOut_5 (by decide) (Nat.le_of_ble_eq_true rfl) (sp_Catalog_sizeOf M e he) (fun r5 M5 hq5 => ?_)
  refine z_withR (fun hR => ?_)
  obtain ⟨rfl, rfl⟩ := hq5
  refine zistore_6_3 dX5_workedOut_8 ?_
  refine zaload_6_0 dX5_workedOut_9 ?_
  refine zg_Rows_55 rfl dX5_workedOut_10 ?_
  refine zg_Rows_89 rfl dX5_workedOut_13 ?_
  refine ziload_6_1 dX5_workedOut_16 ?_
  refine z_iald _ rfl (by decide) (by decide) rfl (by omega) dX5_workedOut_17 ?_
  refine z_top n2 ?_
  refine zistore_6_4 dX5_workedOut_18 ?_
  refine zaload_6_0 dX5_workedOut_20 ?_
  refine zg_Rows_55 rfl dX5_workedOut_21 ?_
  refine zg_Rows_92 rfl dX5_workedOut_24 ?_
  refine ziload_6_1 dX5_workedOut_27 ?_
  refine z_iald _ rfl (by decide) (by decide) rfl (by omega) dX5_workedOut_28 ?_
  refine z_top n3 ?_
  refine zistore_6_5 dX5_workedOut_29 ?_
  refine zaload_6_0 dX5_workedOut_31 ?_
  refine zg_Rows_55 rfl dX5_workedOut_32 ?_
  refine zg_Rows_95 rfl dX5_workedOut_35 ?_
  refine ziload_6_1 dX5_workedOut_38 ?_
  refine z_iald _ rfl (by decide) (by decide) rfl (by omega) dX5_workedOut_39 ?_
  refine z_top n1 ?_
  refine z_if_ne (tgt := 76) (by first | omega | exact hR.1 _ _ (by decide) | exact zrng_toInt _) dX5_workedOut_40 (by decide) (fun h40 => ?_) (fun h40 => ?_)
  · have hne : ¬ W i = 0 := by omega
    obtain ⟨ha, hb⟩ := w1 hne
    obtain ⟨da, db⟩ := hd hne
    refine zaload_6_0 dX5_workedOut_76 ?_
    refine zg_Rows_55 rfl dX5_workedOut_77 ?_
    refine zg_Rows_95 rfl dX5_workedOut_80 ?_
    refine ziload_6_1 dX5_workedOut_83 ?_
    refine z_iald _ rfl (by decide) (by decide) rfl (by omega) dX5_workedOut_84 ?_
    refine z_top n1 ?_
    refine ziload_6_3 dX5_workedOut_85 ?_
    refine zaload_6_0 dX5_workedOut_86 ?_
    refine ziload_6_4 dX5_workedOut_87 ?_
    refine ziload_6_2 dX5_workedOut_89 ?_
    refine zc_Rows_82 rfl dX5_workedOut_90 (by decide) (Nat.le_of_ble_eq_true rfl) (sp_Rows_seenBits M5 Ws N (sE L R W A Bb) (A i) e hM hW he (by omega)) (fun r90 M90 hq90 => ?_)
    refine z_withR (fun hR => ?_)
    obtain ⟨rfl, rfl⟩ := hq90
    refine zaload_6_0 dX5_workedOut_93 ?_
    refine ziload_6_5 dX5_workedOut_94 ?_
    refine ziload_6_2 dX5_workedOut_96 ?_
    refine zc_Rows_82 rfl dX5_workedOut_97 (by decide) (Nat.le_of_ble_eq_true rfl) (sp_Rows_seenBits M90 Ws N (sE L R W A Bb) (Bb i) e hM hW he (by omega)) (fun r97 M97 hq97 => ?_)
    refine z_withR (fun hR => ?_)
    obtain ⟨rfl, rfl⟩ := hq97
    refine zc_Rows_110 rfl dX5_workedOut_100 (by decide) (Nat.le_of_ble_eq_true rfl) (sp_Bits_made M97 (W i) (eSz e) _ _ hn (by omega)) (fun r100 M100 hq100 => ?_)
    refine z_withR (fun hR => ?_)
    obtain ⟨rfl, rfl⟩ := hq100
    refine z_iret rfl ?_ dX5_workedOut_103
    refine ⟨zfr.rf, ?_⟩
    unfold sE
    rw [so_n hw hi hne, da]
    congr 1
    apply bm_congr
    intro j hj
    by_cases h2 : W i = 2
    · rw [db h2, h2]; rfl
    · rcases (show W i = 1 ∨ W i = 3 ∨ W i = 4 ∨ W i = 5 ∨ W i = 6 by omega) with q | q | q | q | q <;> rw [q] <;> rfl
  · have he0 : W i = 0 := by omega
    obtain ⟨ha, hb⟩ := w0 he0
    refine zaload_6_0 dX5_workedOut_43 ?_
    refine zg_Rows_59 rfl dX5_workedOut_44 ?_
    refine ziload_6_3 dX5_workedOut_47 ?_
    refine zaload_6_0 dX5_workedOut_48 ?_
    refine zg_Rows_51 rfl dX5_workedOut_49 ?_
    refine zg_Rows_98 rfl dX5_workedOut_52 ?_
    refine ziload_6_2 dX5_workedOut_55 ?_
    refine z_iald (e) rfl (by decide) (by decide) (by omega) (by omega) dX5_workedOut_56 ?_
    refine z_top (hc e he).1 ?_
    refine zc_Rows_101 rfl dX5_workedOut_57 (by decide) (Nat.le_of_ble_eq_true rfl) (sp_Table_load M5 (eSz e) (eK e) hn (by omega)) (fun r57 M57 hq57 => ?_)
    refine z_withR (fun hR => ?_)
    obtain ⟨hf2, ht2⟩ := hq57
    refine zaload_6_0 dX5_workedOut_60 ?_
    refine zg_Rows_59 rfl dX5_workedOut_61 ?_
    refine zaload_6_0 dX5_workedOut_64 ?_
    refine zg_Rows_47 rfl dX5_workedOut_65 ?_
    refine ziload_6_4 dX5_workedOut_68 ?_
    refine ziload_6_5 dX5_workedOut_70 ?_
    refine zc_Rows_106 rfl dX5_workedOut_72 (by decide) (Nat.le_of_ble_eq_true rfl) (sp_Table_pairsAlike M57 L R T (eSz e) (eK e) (A i) (Bb i) hn ht2 (hT.fr hf2 (by decide) (by decide) (by decide) (by decide)) ha hb) (fun r72 M72 hq72 => ?_)
    refine z_withR (fun hR => ?_)
    obtain ⟨hf3, rfl⟩ := hq72
    refine z_iret rfl ?_ dX5_workedOut_75
    exact ⟨hf2.tr hf3 (by decide) (by decide), by unfold sE; rw [so_0 he0]⟩
theorem sp_Rows_see (M : zMem) (L R W A Bb Ws : Nat → Nat) (T N i e : Nat) (hc : catF M) (hT : tmC M L R T) (hnt : ntC M T N W A Bb) (hM : snM M Ws) (hW : snW Ws N (sE L R W A Bb)) (he : e < 3341) (hi : i < N) (hd : ¬ W i = 0 → dn Ws e (A i) = true ∧ (W i = 2 → dn Ws e (Bb i) = true)) :
    zSp zd_Rows_see 3 [zr 6, zi i, zi e] M (fun _ M' => zfr [3, 15, 16, 29] M M' ∧ ∃ Ws' : Nat → Nat, snM M' Ws' ∧ snW Ws' N (sE L R W A Bb) ∧ ∀ e' i', e' < 3341 → i' < 12 → dn Ws' e' i' = (dn Ws e' i' || (decide (e' = e) && decide (i' = i)))) := by
  refine zSp_in 4 [some (zr 6), some (zi i), some (zi e), none, none, none, none] rfl rfl (by decide +kernel) rfl ?_
  refine z_withR (fun hR => ?_)
  have hN : N ≤ 12 := hnt.2.1
  have hx : 2 * e + i / 6 < 6682 := by omega
  have hWx := hW.1 _ hx
  have hMx := hM _ hx
  have hs : i % 6 < 6 := Nat.mod_lt _ (by decide)
  have hpw : 2 ^ (54 + i % 6) < 2 ^ 60 := Nat.pow_lt_pow_right (by decide) (by omega)
  have hb9 := bm9 (okn_eSz e) (sE L R W A Bb e i) (Nat.le_refl _)
  have hp1 : bm (sE L R W A Bb e i) (eSz e * eSz e) * 2 ^ (9 * (i % 6)) < 2 ^ 54 := by
    calc bm (sE L R W A Bb e i) (eSz e * eSz e) * 2 ^ (9 * (i % 6)) < 2 ^ 9 * 2 ^ (9 * (i % 6)) := Nat.mul_lt_mul_of_pos_right hb9 (Nat.two_pow_pos _)
      _ = 2 ^ (9 + 9 * (i % 6)) := by rw [Nat.pow_add]
      _ ≤ 2 ^ 54 := Nat.pow_le_pow_right (by decide) (by omega)
  have hand := zAndL_nat (a := Ws (2 * e + i / 6)) (b := 2 ^ (54 + i % 6)) (by omega)
  have hbit := fb_bit_nat (Ws (2 * e + i / 6)) (54 + i % 6)
  have hle : Ws (2 * e + i / 6) &&& 2 ^ (54 + i % 6) ≤ Ws (2 * e + i / 6) := Nat.and_le_left
  have hshl : zShlL 1 ((54 + i % 6 : Nat) : Int) = ((2 ^ (54 + i % 6) : Nat) : Int) := by
    have := zShlL_nat (a := 1) (s := 54 + i % 6) (by omega) (by omega)
    rw [Nat.one_mul] at this
    exact this
  have hsh2 := zShlL_nat (a := bm (sE L R W A Bb e i) (eSz e * eSz e)) (s := 9 * (i % 6)) (by omega) (by omega)
  have hor1 := zOrL_nat (a := bm (sE L R W A Bb e i) (eSz e * eSz e) * 2 ^ (9 * (i % 6))) (b := 2 ^ (54 + i % 6)) (by omega) (by omega)
  have hor1lt : bm (sE L R W A Bb e i) (eSz e * eSz e) * 2 ^ (9 * (i % 6)) ||| 2 ^ (54 + i % 6) < 2 ^ 60 := Nat.or_lt_two_pow (by omega) hpw
  have hor2 := zOrL_nat (a := Ws (2 * e + i / 6)) (b := bm (sE L R W A Bb e i) (eSz e * eSz e) * 2 ^ (9 * (i % 6)) ||| 2 ^ (54 + i % 6)) (by omega) (by omega)
  have hor2lt : Ws (2 * e + i / 6) ||| (bm (sE L R W A Bb e i) (eSz e * eSz e) * 2 ^ (9 * (i % 6)) ||| 2 ^ (54 + i % 6)) < 2 ^ 60 := Nat.or_lt_two_pow hWx hor1lt
  have hput := fun hd0 => sn_put hW he (show i < 12 by omega) hi hd0
  refine ziload_7_1 dX5_see_0 ?_
  refine z_bipush dX5_see_1 (by decide) ?_
  refine z_irem (by omega) (by omega) dX5_see_3 ?_
  refine z_top (y := ((i % 6 : Nat) : Int)) (by omega) ?_
  refine zistore_7_3 dX5_see_4 ?_
  refine z_lconst 1 dX5_see_5 rfl ?_
  refine z_bipush dX5_see_6 (by decide) ?_
  refine ziload_7_3 dX5_see_8 ?_
  refine z_iadd dX5_see_9 ?_
  refine z_top (y := ((54 + i % 6 : Nat) : Int)) (by omega) ?_
  refine z_lshl dX5_see_10 ?_
  refine z_topl hshl ?_
  refine z_lstore dX5_see_11 (Nat.le_of_ble_eq_true rfl) ?_
  try dsimp only [List.set]
  refine z_iconst dX5_see_13 ?_
  refine ziload_7_2 dX5_see_14 ?_
  refine z_imul dX5_see_15 ?_
  refine ziload_7_1 dX5_see_16 ?_
  refine z_bipush dX5_see_17 (by decide) ?_
  refine z_idiv (by omega) (by omega) dX5_see_19 ?_
  refine z_iadd dX5_see_20 ?_
  refine z_top (y := ((2 * e + i / 6 : Nat) : Int)) (by omega) ?_
  refine zistore_7_6 dX5_see_21 ?_
  refine zaload_7_0 dX5_see_23 ?_
  refine zg_Rows_34 rfl dX5_see_24 ?_
  refine ziload_7_6 dX5_see_27 ?_
  refine z_lald (2 * e + i / 6) rfl (by decide) (by decide) rfl (by omega) dX5_see_29 ?_
  refine z_topl hMx ?_
  refine z_lload dX5_see_30 rfl rfl ?_
  refine z_land dX5_see_32 ?_
  refine z_topl hand ?_
  refine z_lconst 0 dX5_see_33 rfl ?_
  refine z_lcmp (by omega) (by omega) dX5_see_34 ?_
  refine z_if_ne (tgt := 63) (by (repeat' split) <;> omega) dX5_see_35 (by decide) (fun h35 => ?_) (fun h35 => ?_)
  · have hdn : dn Ws e i = true := by
      unfold dn
      cases hb : (Ws (2 * e + i / 6)).testBit (54 + i % 6)
      · have := hbit.mpr hb
        rw [this] at h35
        exact absurd rfl h35
      · rfl
    refine z_vret rfl ?_ dX5_see_63
    first
      | exact ⟨zfr.rf, Ws, hM, hW, fun e' i' h1 h2 => by
          by_cases h3 : e' = e
          · by_cases h4 : i' = i
            · subst h3; subst h4; rw [hdn]; rfl
            · simp [h4]
          · simp [h3]⟩
      | exact ⟨((hf49.up (by decide)).mu (by decide)), _, fun x hx2 => by
          by_cases h3 : x = 2 * e + i / 6
          · rw [h3, zmu_same, fup_s]
          · rw [zmu_ne _ _ _ _ h3, fup_n h3, hf49 29 (by decide)]; exact hM x hx2, hp2, hp3⟩
  · have hdn : dn Ws e i = false := by
      unfold dn
      apply hbit.mp
      revert h35
      (repeat' split) <;> intro h35 <;> omega
    obtain ⟨hp2, hp3⟩ := hput hdn
    refine zaload_7_0 dX5_see_38 ?_
    refine zg_Rows_34 rfl dX5_see_39 ?_
    refine ziload_7_6 dX5_see_42 ?_
    refine z_dup2 (fun _ => rfl) (fun _ => rfl) dX5_see_44 ?_
    refine z_lald (2 * e + i / 6) rfl (by decide) (by decide) rfl (by omega) dX5_see_45 ?_
    refine z_topl hMx ?_
    refine zaload_7_0 dX5_see_46 ?_
    refine ziload_7_1 dX5_see_47 ?_
    refine ziload_7_2 dX5_see_48 ?_
    refine zc_Rows_86 rfl dX5_see_49 (by decide) (Nat.le_of_ble_eq_true rfl) (sp_Rows_workedOut M L R W A Bb Ws T N i e hc hT hnt hM hW he hi hd) (fun r49 M49 hq49 => ?_)
    refine z_withR (fun hR => ?_)
    obtain ⟨hf49, rfl⟩ := hq49
    refine z_i2l (by first | omega | exact hR.1 _ _ (by decide) | exact zrng_toInt _) dX5_see_52 ?_
    refine ziload_7_3 dX5_see_53 ?_
    refine z_bipush dX5_see_54 (by decide) ?_
    refine z_imul dX5_see_56 ?_
    refine z_top (y := ((9 * (i % 6) : Nat) : Int)) (by omega) ?_
    refine z_lshl dX5_see_57 ?_
    refine z_topl hsh2 ?_
    refine z_lload dX5_see_58 rfl rfl ?_
    refine z_lor dX5_see_60 ?_
    refine z_topl hor1 ?_
    refine z_lor dX5_see_61 ?_
    refine z_topl hor2 ?_
    refine z_last (2 * e + i / 6) rfl (by decide) (by decide) rfl (by omega) (by omega) dX5_see_62 ?_
    refine z_withR (fun hR => ?_)
    refine z_vret rfl ?_ dX5_see_63
    first
      | exact ⟨zfr.rf, Ws, hM, hW, fun e' i' h1 h2 => by
          by_cases h3 : e' = e
          · by_cases h4 : i' = i
            · subst h3; subst h4; rw [hdn]; rfl
            · simp [h4]
          · simp [h3]⟩
      | exact ⟨((hf49.up (by decide)).mu (by decide)), _, fun x hx2 => by
          by_cases h3 : x = 2 * e + i / 6
          · rw [h3, zmu_same, fup_s]
          · rw [zmu_ne _ _ _ _ h3, fup_n h3, hf49 29 (by decide)]; exact hM x hx2, hp2, hp3⟩
