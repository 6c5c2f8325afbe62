theorem sp_Rows_sizeAt (M : zMem) (q : Nat → Bool) (w : Nat) (h : lsOK M q) (hw : w < lS q) : zSp zd_Rows_sizeAt 1 [zr 6, zi w] M (fun r M' => M' = M ∧ r = eSz (lE q w)) := by
  refine zSp_in 0 [some (zr 6), some (zi w)] rfl rfl (by decide +kernel) rfl ?_
  refine z_withR (fun hR => ?_)
  have h40 := lS_le q
  have h1 := (lE_ok hw).1
  refine zaload_2_0 dX5_sizeAt_0 ?_
  refine zg_Rows_51 rfl dX5_sizeAt_1 ?_
  refine zaload_2_0 dX5_sizeAt_4 ?_
  refine zg_Rows_11 rfl dX5_sizeAt_5 ?_
  refine ziload_2_1 dX5_sizeAt_8 ?_
  refine z_iald _ rfl (by decide) (by decide) rfl (by omega) dX5_sizeAt_9 ?_
  refine z_top (h.2.2 w hw).1 ?_
  refine zc_Rows_78 rfl dX5_sizeAt_10 (by decide) (Nat.le_of_ble_eq_true rfl) (sp_Catalog_sizeOf M (lE q w) h1) (fun r10 M10 hq10 => ?_)
  refine z_withR (fun hR => ?_)
  obtain ⟨rfl, rfl⟩ := hq10
  refine z_iret rfl ?_ dX5_sizeAt_13
  exact ⟨rfl, rfl⟩
theorem sp_Rows_at (M : zMem) (q : Nat → Bool) (N : Nat) (Ws : Nat → Nat) (S : Nat → Nat → Nat → Bool) (i w : Nat) (h : rdy M q N Ws S) (hN : N ≤ 12) (hi : i < N) (hw : w < lS q) : zSp zd_Rows_at 1 [zr 6, zi i, zi w] M (fun r M' => M' = M ∧ r = bm (S (lE q w) i) (lQ q w)) := by
  refine zSp_in 0 [some (zr 6), some (zi i), some (zi w)] rfl rfl (by decide +kernel) rfl ?_
  refine z_withR (fun hR => ?_)
  have h40 := lS_le q
  have h1 := (lE_ok hw).1
  refine zaload_3_0 dX5_at_0 ?_
  refine ziload_3_1 dX5_at_1 ?_
  refine zaload_3_0 dX5_at_2 ?_
  refine zg_Rows_11 rfl dX5_at_3 ?_
  refine ziload_3_2 dX5_at_6 ?_
  refine z_iald _ rfl (by decide) (by decide) rfl (by omega) dX5_at_7 ?_
  refine z_top (h.1.2.2 w hw).1 ?_
  refine zc_Rows_82 rfl dX5_at_8 (by decide) (Nat.le_of_ble_eq_true rfl) (sp_Rows_seenBits M Ws N S i (lE q w) h.2.1 h.2.2.1 h1 (by omega)) (fun r8 M8 hq8 => ?_)
  refine z_withR (fun hR => ?_)
  obtain ⟨rfl, rfl⟩ := hq8
  refine z_iret rfl ?_ dX5_at_11
  exact ⟨rfl, by rw [h.2.2.2 w hw i hi]; rfl⟩
/-- how many pairs of THE LIST -/
noncomputable def lC (q : Nat → Bool) (F : Nat → Nat → Bool) (w : Nat) : Nat := fb_sm (fun w => fb_ct (F w) (lQ q w)) w
theorem lC_le (q : Nat → Bool) (F : Nat → Nat → Bool) : ∀ w, lC q F w ≤ lP q w := fun w => fb_sm_le (fun k _ => fb_ct_le _ _)
theorem lC_le9 (q : Nat → Bool) (F : Nat → Nat → Bool) (w : Nat) : lC q F w ≤ w * 9 := Nat.le_trans (lC_le q F w) (lP_le q w)
theorem sp_Rows_pairsOf (M : zMem) (q : Nat → Bool) (N : Nat) (Ws : Nat → Nat) (S : Nat → Nat → Nat → Bool) (i : Nat) (h : rdy M q N Ws S) (hN : N ≤ 12) (hi : i < N) : zSp zd_Rows_pairsOf 2 [zr 6, zi i] M (fun r M' => M' = M ∧ r = lC q (fun w => S (lE q w) i) (lS q)) := by
  refine zSp_in 2 [some (zr 6), some (zi i), none, none] rfl rfl (by decide +kernel) rfl ?_
  refine z_withR (fun hR => ?_)
  have h40 := lS_le q
  have e66 := h.1.1
  have loop : ∀ (c w : Nat), w + c = lS q → zV zd_Rows_pairsOf 2 4 [some (zr 6), some (zi i), some (zi (lC q (fun w => S (lE q w) i) w)), some (zi w)] [] M (fun r M' => M' = M ∧ r = lC q (fun w => S (lE q w) i) (lS q)) := by
    intro c
    induction c with
    | zero =>
      intro w hw
      refine ziload_4_3 dX5_pairsOf_4 ?_
      refine zaload_4_0 dX5_pairsOf_5 ?_
      refine zg_Rows_18 rfl dX5_pairsOf_6 ?_
      refine z_top e66 ?_
      refine z_icmp_ge (tgt := 30) (by first | omega | exact hR.1 _ _ (by decide) | exact zrng_toInt _) (by first | omega | exact hR.1 _ _ (by decide) | exact zrng_toInt _) dX5_pairsOf_9 (by decide) (fun h9 => ?_) (fun h9 => ?_)
      · refine ziload_4_2 dX5_pairsOf_30 ?_
        refine z_iret rfl ?_ dX5_pairsOf_31
        exact ⟨rfl, by rw [show w = lS q by omega]⟩
      · omega
    | succ c ih =>
      intro w hw
      have hc := lC_le9 q (fun w => S (lE q w) i) w
      have hq9 := lQ_le q w
      have e1 : lC q (fun w => S (lE q w) i) (w + 1) = lC q (fun w => S (lE q w) i) w + fb_ct (S (lE q w) i) (lQ q w) := rfl
      have hf := fb_ct_le (S (lE q w) i) (lQ q w)
      refine ziload_4_3 dX5_pairsOf_4 ?_
      refine zaload_4_0 dX5_pairsOf_5 ?_
      refine zg_Rows_18 rfl dX5_pairsOf_6 ?_
      refine z_top e66 ?_
      refine z_icmp_ge (tgt := 30) (by first | omega | exact hR.1 _ _ (by decide) | exact zrng_toInt _) (by first | omega | exact hR.1 _ _ (by decide) | exact zrng_toInt _) dX5_pairsOf_9 (by decide) (fun h9 => ?_) (fun h9 => ?_)
      · omega
      · refine ziload_4_2 dX5_pairsOf_12 ?_
        refine zaload_4_0 dX5_pairsOf_13 ?_
        refine ziload_4_1 dX5_pairsOf_14 ?_
        refine ziload_4_3 dX5_pairsOf_15 ?_
        refine zc_Rows_116 rfl dX5_pairsOf_16 (by decide) (Nat.le_of_ble_eq_true rfl) (sp_Rows_at M q N Ws S i w h hN hi (by omega)) (fun r16 M16 hq16 => ?_)
        refine z_withR (fun hR => ?_)
        obtain ⟨rfl, rfl⟩ := hq16
        refine zc_Rows_119 rfl dX5_pairsOf_19 (by decide) (Nat.le_of_ble_eq_true rfl) (sp_Integer_bitCount M16 (S (lE q w) i) (lQ q w) hq9.1) (fun r19 M19 hq19 => ?_)
        refine z_withR (fun hR => ?_)
        obtain ⟨rfl, rfl⟩ := hq19
        refine z_iadd dX5_pairsOf_22 ?_
        refine z_top (y := ((lC q (fun w => S (lE q w) i) (w + 1) : Nat) : Int)) (by rw [e1]; omega) ?_
        refine zistore_4_2 dX5_pairsOf_23 ?_
        refine ziinc_4_3 dX5_pairsOf_24 ?_
        refine z_goto (tgt := 4) dX5_pairsOf_27 (by decide) ?_
        exact ih (w + 1) (by omega)
  refine z_iconst dX5_pairsOf_0 ?_
  refine zistore_4_2 dX5_pairsOf_1 ?_
  refine z_iconst dX5_pairsOf_2 ?_
  refine zistore_4_3 dX5_pairsOf_3 ?_
  exact loop (lS q) 0 (by omega)
theorem bm_inj {f g : Nat → Bool} {m : Nat} : bm f m = bm g m ↔ ∀ j, j < m → f j = g j := by
  constructor
  · intro h j hj
    have := congrArg (fun x => x.testBit j) h
    simpa [bm_bit, hj] using this
  · exact bm_congr
theorem bm_andn (f g : Nat → Bool) (m : Nat) : nAndn (bm f m) (bm g m) = bm (fun j => f j && !g j) m := by
  apply Nat.eq_of_testBit_eq
  intro i
  rw [nAndn_bit, bm_bit, bm_bit, bm_bit]
  by_cases h : i < m <;> simp [h]
theorem bm_and (f g : Nat → Bool) (m : Nat) : bm f m &&& bm g m = bm (fun j => f j && g j) m := by
  apply Nat.eq_of_testBit_eq
  intro i
  rw [Nat.testBit_and, bm_bit, bm_bit, bm_bit]
  by_cases h : i < m <;> simp [h]
theorem bm512 (f : Nat → Bool) {m : Nat} (hm : m ≤ 9) : bm f m < 512 := Nat.lt_of_lt_of_le (bm_lt f m) (Nat.le_trans (Nat.pow_le_pow_right (by decide) hm) (by decide))
theorem sp_Rows_agree (M : zMem) (q : Nat → Bool) (N : Nat) (Ws : Nat → Nat) (S : Nat → Nat → Nat → Bool) (a b : Nat) (h : rdy M q N Ws S) (hN : N ≤ 12) (ha : a < N) (hb : b < N) : zSp zd_Rows_agree 2 [zr 6, zi a, zi b] M (fun r M' => M' = M ∧ ((r = 1 ∧ ∀ w, w < lS q → ∀ j, j < lQ q w → S (lE q w) a j = S (lE q w) b j) ∨ (r = 0 ∧ ¬ ∀ w, w < lS q → ∀ j, j < lQ q w → S (lE q w) a j = S (lE q w) b j))) := by
  refine zSp_in 1 [some (zr 6), some (zi a), some (zi b), none] rfl rfl (by decide +kernel) rfl ?_
  refine z_withR (fun hR => ?_)
  have h40 := lS_le q
  have e66 := h.1.1
  have loop : ∀ (c w : Nat), w + c = lS q → (∀ w', w' < w → ∀ j, j < lQ q w' → S (lE q w') a j = S (lE q w') b j) → zV zd_Rows_agree 2 2 [some (zr 6), some (zi a), some (zi b), some (zi w)] [] M (fun r M' => M' = M ∧ ((r = 1 ∧ ∀ w, w < lS q → ∀ j, j < lQ q w → S (lE q w) a j = S (lE q w) b j) ∨ (r = 0 ∧ ¬ ∀ w, w < lS q → ∀ j, j < lQ q w → S (lE q w) a j = S (lE q w) b j))) := by
    intro c
    induction c with
    | zero =>
      intro w hw hy
      refine ziload_4_3 dX5_agree_2 ?_
      refine zaload_4_0 dX5_agree_3 ?_
      refine zg_Rows_18 rfl dX5_agree_4 ?_
      refine z_top e66 ?_
      refine z_icmp_ge (tgt := 33) (by first | omega | exact hR.1 _ _ (by decide) | exact zrng_toInt _) (by first | omega | exact hR.1 _ _ (by decide) | exact zrng_toInt _) dX5_agree_7 (by decide) (fun h7 => ?_) (fun h7 => ?_)
      · refine z_iconst dX5_agree_33 ?_
        refine z_zret rfl (by omega) ?_ dX5_agree_34
        exact ⟨rfl, Or.inl ⟨rfl, fun w' h1 => hy w' (by omega)⟩⟩
      · omega
    | succ c ih =>
      intro w hw hy
      have hq9 := lQ_le q w
      have b1 := bm512 (S (lE q w) a) hq9.1
      have b2 := bm512 (S (lE q w) b) hq9.1
      refine ziload_4_3 dX5_agree_2 ?_
      refine zaload_4_0 dX5_agree_3 ?_
      refine zg_Rows_18 rfl dX5_agree_4 ?_
      refine z_top e66 ?_
      refine z_icmp_ge (tgt := 33) (by first | omega | exact hR.1 _ _ (by decide) | exact zrng_toInt _) (by first | omega | exact hR.1 _ _ (by decide) | exact zrng_toInt _) dX5_agree_7 (by decide) (fun h7 => ?_) (fun h7 => ?_)
      · omega
      · refine zaload_4_0 dX5_agree_10 ?_
        refine ziload_4_1 dX5_agree_11 ?_
        refine ziload_4_3 dX5_agree_12 ?_
        refine zc_Rows_116 rfl dX5_agree_13 (by decide) (Nat.le_of_ble_eq_true rfl) (sp_Rows_at M q N Ws S a w h hN ha (by omega)) (fun r13 M13 hq13 => ?_)
        refine z_withR (fun hR => ?_)
        obtain ⟨rfl, rfl⟩ := hq13
        refine zaload_4_0 dX5_agree_16 ?_
        refine ziload_4_2 dX5_agree_17 ?_
        refine ziload_4_3 dX5_agree_18 ?_
        refine zc_Rows_116 rfl dX5_agree_19 (by decide) (Nat.le_of_ble_eq_true rfl) (sp_Rows_at M13 q N Ws S b w h hN hb (by omega)) (fun r19 M19 hq19 => ?_)
        refine z_withR (fun hR => ?_)
        obtain ⟨rfl, rfl⟩ := hq19
        refine z_icmp_eq (tgt := 27) (by first | omega | exact hR.1 _ _ (by decide) | exact zrng_toInt _) (by first | omega | exact hR.1 _ _ (by decide) | exact zrng_toInt _) dX5_agree_22 (by decide) (fun h22 => ?_) (fun h22 => ?_)
        · refine ziinc_4_3 dX5_agree_27 ?_
          refine z_goto (tgt := 2) dX5_agree_30 (by decide) ?_
          refine ih (w + 1) (by omega) (fun w' h1 => ?_)
          rcases Nat.lt_or_ge w' w with q1 | q1
          · exact hy w' q1
          · rw [show w' = w by omega]; exact bm_inj.mp (by omega)
        · refine z_iconst dX5_agree_25 ?_
          refine z_zret rfl (by omega) ?_ dX5_agree_26
          refine ⟨rfl, Or.inr ⟨rfl, fun h9 => h22 ?_⟩⟩
          rw [bm_congr (h9 w (by omega))]
  refine z_iconst dX5_agree_0 ?_
  refine zistore_4_3 dX5_agree_1 ?_
  exact loop (lS q) 0 (by omega) (fun w' h1 => absurd h1 (Nat.not_lt_zero _))
theorem sp_Rows_pairsBeyond (M : zMem) (q : Nat → Bool) (N : Nat) (Ws : Nat → Nat) (S : Nat → Nat → Nat → Bool) (a b : Nat) (h : rdy M q N Ws S) (hN : N ≤ 12) (ha : a < N) (hb : b < N) : zSp zd_Rows_pairsBeyond 2 [zr 6, zi a, zi b] M (fun r M' => M' = M ∧ r = lC q (fun w j => S (lE q w) a j && !S (lE q w) b j) (lS q)) := by
  refine zSp_in 2 [some (zr 6), some (zi a), some (zi b), none, none] rfl rfl (by decide +kernel) rfl ?_
  refine z_withR (fun hR => ?_)
  have h40 := lS_le q
  have e66 := h.1.1
  generalize hF : (fun w j => S (lE q w) a j && !S (lE q w) b j) = F
  have loop : ∀ (c w : Nat), w + c = lS q → zV zd_Rows_pairsBeyond 2 5 [some (zr 6), some (zi a), some (zi b), some (zi (lC q F w)), some (zi w)] [] M (fun r M' => M' = M ∧ r = lC q F (lS q)) := by
    intro c
    induction c with
    | zero =>
      intro w hw
      refine ziload_5_4 dX5_pairsBeyond_5 ?_
      refine zaload_5_0 dX5_pairsBeyond_7 ?_
      refine zg_Rows_18 rfl dX5_pairsBeyond_8 ?_
      refine z_top e66 ?_
      refine z_icmp_ge (tgt := 43) (by first | omega | exact hR.1 _ _ (by decide) | exact zrng_toInt _) (by first | omega | exact hR.1 _ _ (by decide) | exact zrng_toInt _) dX5_pairsBeyond_11 (by decide) (fun h11 => ?_) (fun h11 => ?_)
      · refine ziload_5_3 dX5_pairsBeyond_43 ?_
        refine z_iret rfl ?_ dX5_pairsBeyond_44
        exact ⟨rfl, by rw [show w = lS q by omega]⟩
      · omega
    | succ c ih =>
      intro w hw
      have hc := lC_le9 q F w
      have hq9 := lQ_le q w
      have e1 : lC q F (w + 1) = lC q F w + fb_ct (F w) (lQ q w) := rfl
      have hf := fb_ct_le (F w) (lQ q w)
      have b1 := bm512 (S (lE q w) a) hq9.1
      have e2 : nAndn (bm (S (lE q w) a) (lQ q w)) (bm (S (lE q w) b) (lQ q w)) = bm (F w) (lQ q w) := by rw [bm_andn, ← hF]
      refine ziload_5_4 dX5_pairsBeyond_5 ?_
      refine zaload_5_0 dX5_pairsBeyond_7 ?_
      refine zg_Rows_18 rfl dX5_pairsBeyond_8 ?_
      refine z_top e66 ?_
      refine z_icmp_ge (tgt := 43) (by first | omega | exact hR.1 _ _ (by decide) | exact zrng_toInt _) (by first | omega | exact hR.1 _ _ (by decide) | exact zrng_toInt _) dX5_pairsBeyond_11 (by decide) (fun h11 => ?_) (fun h11 => ?_)
      · omega
      · refine ziload_5_3 dX5_pairsBeyond_14 ?_
        refine zaload_5_0 dX5_pairsBeyond_15 ?_
        refine ziload_5_1 dX5_pairsBeyond_16 ?_
        refine ziload_5_4 dX5_pairsBeyond_17 ?_
        refine zc_Rows_116 rfl dX5_pairsBeyond_19 (by decide) (Nat.le_of_ble_eq_true rfl) (sp_Rows_at M q N Ws S a w h hN ha (by omega)) (fun r19 M19 hq19 => ?_)
        refine z_withR (fun hR => ?_)
        obtain ⟨rfl, rfl⟩ := hq19
        refine zaload_5_0 dX5_pairsBeyond_22 ?_
        refine ziload_5_2 dX5_pairsBeyond_23 ?_
        refine ziload_5_4 dX5_pairsBeyond_24 ?_
        refine zc_Rows_116 rfl dX5_pairsBeyond_26 (by decide) (Nat.le_of_ble_eq_true rfl) (sp_Rows_at M19 q N Ws S b w h hN hb (by omega)) (fun r26 M26 hq26 => ?_)
        refine z_withR (fun hR => ?_)
        obtain ⟨rfl, rfl⟩ := hq26
        refine z_iconst dX5_pairsBeyond_29 ?_
        refine z_ixor dX5_pairsBeyond_30 ?_
        refine z_iand dX5_pairsBeyond_31 ?_
        refine z_top (zAndn (by omega)) ?_
        rw [e2]
        refine zc_Rows_119 rfl dX5_pairsBeyond_32 (by decide) (Nat.le_of_ble_eq_true rfl) (sp_Integer_bitCount M26 (F w) (lQ q w) hq9.1) (fun r32 M32 hq32 => ?_)
        refine z_withR (fun hR => ?_)
        obtain ⟨rfl, rfl⟩ := hq32
        refine z_iadd dX5_pairsBeyond_35 ?_
        refine z_top (y := ((lC q F (w + 1) : Nat) : Int)) (by rw [e1]; omega) ?_
        refine zistore_5_3 dX5_pairsBeyond_36 ?_
        refine ziinc_5_4 dX5_pairsBeyond_37 ?_
        refine z_goto (tgt := 5) dX5_pairsBeyond_40 (by decide) ?_
        exact ih (w + 1) (by omega)
  refine z_iconst dX5_pairsBeyond_0 ?_
  refine zistore_5_3 dX5_pairsBeyond_1 ?_
  refine z_iconst dX5_pairsBeyond_2 ?_
  refine zistore_5_4 dX5_pairsBeyond_3 ?_
  exact loop (lS q) 0 (by omega)
theorem sp_Rows_pairBeyond (M : zMem) (q : Nat → Bool) (N : Nat) (Ws : Nat → Nat) (S : Nat → Nat → Nat → Bool) (a b : Nat) (i : Int) (hi : zrng i) (h : rdy M q N Ws S) (hN : N ≤ 12) (ha : a < N) (hb : b < N) (F : Nat → Nat → Bool) (hF : F = fun w j => S (lE q w) a j && !S (lE q w) b j) : zSp zd_Rows_pairBeyond 2 [zr 6, zi a, zi b, zi i] M (fun r M' => M' = M ∧ ((∃ w j, w < lS q ∧ j < lQ q w ∧ F w j = true ∧ ((lC q F w + fb_ct (F w) j : Nat) : Int) = i ∧ r = ((lP q w + j : Nat) : Int)) ∨ (r = -9 ∧ ∀ w j, w < lS q → j < lQ q w → F w j = true → ¬ ((lC q F w + fb_ct (F w) j : Nat) : Int) = i))) := by
  refine zSp_in 4 [some (zr 6), some (zi a), some (zi b), some (zi i), none, none, none, none] rfl rfl (by decide +kernel) rfl ?_
  refine z_withR (fun hR => ?_)
  have h40 := lS_le q
  have e66 := h.1.1
  obtain ⟨post, hpost⟩ : ∃ post : Int → zMem → Prop, post = (fun (r : Int) M' => M' = M ∧ ((∃ w j, w < lS q ∧ j < lQ q w ∧ F w j = true ∧ ((lC q F w + fb_ct (F w) j : Nat) : Int) = i ∧ r = ((lP q w + j : Nat) : Int)) ∨ (r = -9 ∧ ∀ w j, w < lS q → j < lQ q w → F w j = true → ¬ ((lC q F w + fb_ct (F w) j : Nat) : Int) = i))) := ⟨_, rfl⟩
  rw [← hpost]
  have inner : ∀ (w : Nat), w < lS q → (∀ g : Option zAV, (∀ j, j < lQ q w → F w j = true → ¬ ((lC q F w + fb_ct (F w) j : Nat) : Int) = i) → zV zd_Rows_pairBeyond 2 80 [some (zr 6), some (zi a), some (zi b), some (zi i), some (zi (lC q F (w + 1))), some (zi w), some (zi (bm (F w) (lQ q w))), g] [] M post) →
      ∀ (c j : Nat), j + c = 9 → (∀ j', j' < j → j' < lQ q w → F w j' = true → ¬ ((lC q F w + fb_ct (F w) j' : Nat) : Int) = i) → zV zd_Rows_pairBeyond 2 37 [some (zr 6), some (zi a), some (zi b), some (zi i), some (zi ((lC q F w + fb_ct (fun j => decide (j < lQ q w) && F w j) j : Nat) : Int)), some (zi w), some (zi (bm (F w) (lQ q w))), some (zi j)] [] M post := by
    intro w hw kk c
    have hq9 := lQ_le q w
    have hc := lC_le9 q F w
    have b1 := bm512 (F w) hq9.1
    have e9 : fb_ct (fun j => decide (j < lQ q w) && F w j) 9 = fb_ct (F w) (lQ q w) := fb_ct_ext9 (F w) _ hq9.1
    have e1 : lC q F (w + 1) = lC q F w + fb_ct (F w) (lQ q w) := rfl
    have elo : ∀ j, j < lQ q w → fb_ct (fun j => decide (j < lQ q w) && F w j) j = fb_ct (F w) j := by
      intro j hj
      apply fb_ct_cong
      intro k hk
      have h3 : k < lQ q w := by omega
      simp [h3]
    induction c with
    | zero =>
      intro j hj hy
      refine ziload_8_7 dX5_pairBeyond_37 ?_
      refine z_bipush dX5_pairBeyond_39 (by decide) ?_
      refine z_icmp_ge (tgt := 80) (by first | omega | exact hR.1 _ _ (by decide) | exact zrng_toInt _) (by first | omega | exact hR.1 _ _ (by decide) | exact zrng_toInt _) dX5_pairBeyond_41 (by decide) (fun h41 => ?_) (fun h41 => ?_)
      · rw [show j = 9 by omega, e9, ← e1]
        exact kk _ (fun j' h1 => hy j' (by omega) h1)
      · omega
    | succ c ih =>
      intro j hj hy
      have hct := fb_ct_le (fun j => decide (j < lQ q w) && F w j) j
      have hcs := fb_ct_succ (fun j => decide (j < lQ q w) && F w j) j
      have hbit : zAnd (zShr (bm (F w) (lQ q w)) (j : Int)) 1 = if (decide (j < lQ q w) && F w j) then 1 else 0 := by rw [z_bit (by omega) (by omega), bm_bit]
      have est := (h.1.2.2 w hw).2
      have hpl := lP_le q w
      refine ziload_8_7 dX5_pairBeyond_37 ?_
      refine z_bipush dX5_pairBeyond_39 (by decide) ?_
      refine z_icmp_ge (tgt := 80) (by first | omega | exact hR.1 _ _ (by decide) | exact zrng_toInt _) (by first | omega | exact hR.1 _ _ (by decide) | exact zrng_toInt _) dX5_pairBeyond_41 (by decide) (fun h41 => ?_) (fun h41 => ?_)
      · omega
      · refine ziload_8_6 dX5_pairBeyond_44 ?_
        refine ziload_8_7 dX5_pairBeyond_46 ?_
        refine z_ishr dX5_pairBeyond_48 ?_
        refine z_iconst dX5_pairBeyond_49 ?_
        refine z_iand dX5_pairBeyond_50 ?_
        refine z_top hbit ?_
        refine z_if_eq (tgt := 74) (by split <;> omega) dX5_pairBeyond_51 (by decide) (fun h51 => ?_) (fun h51 => ?_)
        · have hno : (decide (j < lQ q w) && F w j) = false := by revert h51; cases (decide (j < lQ q w) && F w j) <;> simp
          have e2 : fb_ct (fun j => decide (j < lQ q w) && F w j) (j + 1) = fb_ct (fun j => decide (j < lQ q w) && F w j) j := by rw [hcs, hno]; rfl
          rw [← e2]
          refine ziinc_8_7 dX5_pairBeyond_74 ?_
          refine z_goto (tgt := 37) dX5_pairBeyond_77 (by decide) ?_
          refine ih (j + 1) (by omega) (fun j' h1 h2 h3 => ?_)
          rcases Nat.lt_or_ge j' j with q1 | q1
          · exact hy j' q1 h2 h3
          · rw [show j' = j by omega] at h2 h3 ⊢
            first
            | (intro h9; rw [← elj] at h9; omega)
            | (simp [h2, h3] at hno)
        · have hyes : (decide (j < lQ q w) && F w j) = true := by revert h51; cases (decide (j < lQ q w) && F w j) <;> simp
          have e2 : fb_ct (fun j => decide (j < lQ q w) && F w j) (j + 1) = fb_ct (fun j => decide (j < lQ q w) && F w j) j + 1 := by rw [hcs, hyes]; rfl
          simp only [Bool.and_eq_true, decide_eq_true_eq] at hyes
          have elj := elo j hyes.1
          refine ziload_8_4 dX5_pairBeyond_54 ?_
          refine ziload_8_3 dX5_pairBeyond_56 ?_
          refine z_icmp_ne (tgt := 71) (by omega) (by omega) dX5_pairBeyond_57 (by decide) (fun h57 => ?_) (fun h57 => ?_)
          · refine ziinc_8_4 dX5_pairBeyond_71 ?_
            rw [show ((lC q F w + fb_ct (fun j => decide (j < lQ q w) && F w j) j : Nat) : Int) + 1 = ((lC q F w + fb_ct (fun j => decide (j < lQ q w) && F w j) (j + 1) : Nat) : Int) by rw [e2]; omega]
            refine ziinc_8_7 dX5_pairBeyond_74 ?_
            refine z_goto (tgt := 37) dX5_pairBeyond_77 (by decide) ?_
            refine ih (j + 1) (by omega) (fun j' h1 h2 h3 => ?_)
            rcases Nat.lt_or_ge j' j with q1 | q1
            · exact hy j' q1 h2 h3
            · rw [show j' = j by omega] at h2 h3 ⊢
              first
              | (intro h9; rw [← elj] at h9; omega)
              | (simp [h2, h3] at hno)
          · refine zaload_8_0 dX5_pairBeyond_60 ?_
            refine zg_Rows_15 rfl dX5_pairBeyond_61 ?_
            refine ziload_8_5 dX5_pairBeyond_64 ?_
            refine z_iald _ rfl (by decide) (by decide) rfl (by omega) dX5_pairBeyond_66 ?_
            refine z_top est ?_
            refine ziload_8_7 dX5_pairBeyond_67 ?_
            refine z_iadd dX5_pairBeyond_69 ?_
            refine z_iret rfl ?_ dX5_pairBeyond_70
            rw [hpost]
            refine ⟨rfl, Or.inl ⟨w, j, hw, hyes.1, hyes.2, ?_, by omega⟩⟩
            rw [← elj]; omega
  have outer : ∀ (c w : Nat) (g6 g7 : Option zAV), w + c = lS q → (∀ w' j, w' < w → j < lQ q w' → F w' j = true → ¬ ((lC q F w' + fb_ct (F w') j : Nat) : Int) = i) → zV zd_Rows_pairBeyond 2 6 [some (zr 6), some (zi a), some (zi b), some (zi i), some (zi (lC q F w)), some (zi w), g6, g7] [] M post := by
    intro c
    induction c with
    | zero =>
      intro w g6 g7 hw hy
      refine ziload_8_5 dX5_pairBeyond_6 ?_
      refine zaload_8_0 dX5_pairBeyond_8 ?_
      refine zg_Rows_18 rfl dX5_pairBeyond_9 ?_
      refine z_top e66 ?_
      refine z_icmp_ge (tgt := 86) (by first | omega | exact hR.1 _ _ (by decide) | exact zrng_toInt _) (by first | omega | exact hR.1 _ _ (by decide) | exact zrng_toInt _) dX5_pairBeyond_12 (by decide) (fun h12 => ?_) (fun h12 => ?_)
      · refine z_bipush dX5_pairBeyond_86 (by decide) ?_
        refine z_iret rfl ?_ dX5_pairBeyond_88
        rw [hpost]
        exact ⟨rfl, Or.inr ⟨rfl, fun w' j h1 => hy w' j (by omega)⟩⟩
      · omega
    | succ c ih =>
      intro w g6 g7 hw hy
      have hq9 := lQ_le q w
      have b1 := bm512 (S (lE q w) a) hq9.1
      have e2 : nAndn (bm (S (lE q w) a) (lQ q w)) (bm (S (lE q w) b) (lQ q w)) = bm (F w) (lQ q w) := by rw [bm_andn, hF]
      have k80 : ∀ g : Option zAV, (∀ j, j < lQ q w → F w j = true → ¬ ((lC q F w + fb_ct (F w) j : Nat) : Int) = i) → zV zd_Rows_pairBeyond 2 80 [some (zr 6), some (zi a), some (zi b), some (zi i), some (zi (lC q F (w + 1))), some (zi w), some (zi (bm (F w) (lQ q w))), g] [] M post := by
        intro g hj
        refine ziinc_8_5 dX5_pairBeyond_80 ?_
        refine z_goto (tgt := 6) dX5_pairBeyond_83 (by decide) ?_
        refine ih (w + 1) _ _ (by omega) (fun w' j h1 => ?_)
        rcases Nat.lt_or_ge w' w with q1 | q1
        · exact hy w' j q1
        · rw [show w' = w by omega]; exact hj j
      refine ziload_8_5 dX5_pairBeyond_6 ?_
      refine zaload_8_0 dX5_pairBeyond_8 ?_
      refine zg_Rows_18 rfl dX5_pairBeyond_9 ?_
      refine z_top e66 ?_
      refine z_icmp_ge (tgt := 86) (by first | omega | exact hR.1 _ _ (by decide) | exact zrng_toInt _) (by first | omega | exact hR.1 _ _ (by decide) | exact zrng_toInt _) dX5_pairBeyond_12 (by decide) (fun h12 => ?_) (fun h12 => ?_)
      · omega
      · refine zaload_8_0 dX5_pairBeyond_15 ?_
        refine ziload_8_1 dX5_pairBeyond_16 ?_
        refine ziload_8_5 dX5_pairBeyond_17 ?_
        refine zc_Rows_116 rfl dX5_pairBeyond_19 (by decide) (Nat.le_of_ble_eq_true rfl) (sp_Rows_at M q N Ws S a w h hN ha (by omega)) (fun r19 M19 hq19 => ?_)
        refine z_withR (fun hR => ?_)
        obtain ⟨rfl, rfl⟩ := hq19
        refine zaload_8_0 dX5_pairBeyond_22 ?_
        refine ziload_8_2 dX5_pairBeyond_23 ?_
        refine ziload_8_5 dX5_pairBeyond_24 ?_
        refine zc_Rows_116 rfl dX5_pairBeyond_26 (by decide) (Nat.le_of_ble_eq_true rfl) (sp_Rows_at M19 q N Ws S b w h hN hb (by omega)) (fun r26 M26 hq26 => ?_)
        refine z_withR (fun hR => ?_)
        obtain ⟨rfl, rfl⟩ := hq26
        refine z_iconst dX5_pairBeyond_29 ?_
        refine z_ixor dX5_pairBeyond_30 ?_
        refine z_iand dX5_pairBeyond_31 ?_
        refine z_top (zAndn (by omega)) ?_
        rw [e2]
        refine zistore_8_6 dX5_pairBeyond_32 ?_
        refine z_iconst dX5_pairBeyond_34 ?_
        refine zistore_8_7 dX5_pairBeyond_35 ?_
        exact inner w (by omega) k80 9 0 (by omega) (fun j' h1 => absurd h1 (Nat.not_lt_zero _))
  refine z_iconst dX5_pairBeyond_0 ?_
  refine zistore_8_4 dX5_pairBeyond_1 ?_
  refine z_iconst dX5_pairBeyond_3 ?_
  refine zistore_8_5 dX5_pairBeyond_4 ?_
  exact outer (lS q) 0 _ _ (by omega) (fun w' j h1 => absurd h1 (Nat.not_lt_zero _))
theorem bm_ne0 {f : Nat → Bool} {m : Nat} (h : ¬ bm f m = 0) : ∃ j, j < m ∧ f j = true := Classical.not_not.mp (fun h2 => h ((bm_eq_zero f m).mpr h2))
theorem sp_Rows_meet (M : zMem) (q : Nat → Bool) (N : Nat) (Ws : Nat → Nat) (S : Nat → Nat → Nat → Bool) (a b : Nat) (h : rdy M q N Ws S) (hN : N ≤ 12) (ha : a < N) (hb : b < N) : zSp zd_Rows_meet 2 [zr 6, zi a, zi b] M (fun r M' => M' = M ∧ ((r = 1 ∧ ∃ w j, w < lS q ∧ j < lQ q w ∧ S (lE q w) a j = true ∧ S (lE q w) b j = true) ∨ (r = 0 ∧ ¬ ∃ w j, w < lS q ∧ j < lQ q w ∧ S (lE q w) a j = true ∧ S (lE q w) b j = true))) := by
  refine zSp_in 1 [some (zr 6), some (zi a), some (zi b), none] rfl rfl (by decide +kernel) rfl ?_
  refine z_withR (fun hR => ?_)
  have h40 := lS_le q
  have e66 := h.1.1
  have loop : ∀ (c w : Nat), w + c = lS q → (¬ ∃ w' j, w' < w ∧ j < lQ q w' ∧ S (lE q w') a j = true ∧ S (lE q w') b j = true) → zV zd_Rows_meet 2 2 [some (zr 6), some (zi a), some (zi b), some (zi w)] [] M (fun r M' => M' = M ∧ ((r = 1 ∧ ∃ w j, w < lS q ∧ j < lQ q w ∧ S (lE q w) a j = true ∧ S (lE q w) b j = true) ∨ (r = 0 ∧ ¬ ∃ w j, w < lS q ∧ j < lQ q w ∧ S (lE q w) a j = true ∧ S (lE q w) b j = true))) := by
    intro c
    induction c with
    | zero =>
      intro w hw hy
      refine ziload_4_3 dX5_meet_2 ?_
      refine zaload_4_0 dX5_meet_3 ?_
      refine zg_Rows_18 rfl dX5_meet_4 ?_
      refine z_top e66 ?_
      refine z_icmp_ge (tgt := 34) (by first | omega | exact hR.1 _ _ (by decide) | exact zrng_toInt _) (by first | omega | exact hR.1 _ _ (by decide) | exact zrng_toInt _) dX5_meet_7 (by decide) (fun h7 => ?_) (fun h7 => ?_)
      · refine z_iconst dX5_meet_34 ?_
        refine z_zret rfl (by omega) ?_ dX5_meet_35
        exact ⟨rfl, Or.inr ⟨rfl, fun ⟨w', j, h1, h2⟩ => hy ⟨w', j, by omega, h2⟩⟩⟩
      · omega
    | succ c ih =>
      intro w hw hy
      have hq9 := lQ_le q w
      have b1 := bm512 (S (lE q w) a) hq9.1
      have b2 := bm512 (fun j => S (lE q w) a j && S (lE q w) b j) hq9.1
      refine ziload_4_3 dX5_meet_2 ?_
      refine zaload_4_0 dX5_meet_3 ?_
      refine zg_Rows_18 rfl dX5_meet_4 ?_
      refine z_top e66 ?_
      refine z_icmp_ge (tgt := 34) (by first | omega | exact hR.1 _ _ (by decide) | exact zrng_toInt _) (by first | omega | exact hR.1 _ _ (by decide) | exact zrng_toInt _) dX5_meet_7 (by decide) (fun h7 => ?_) (fun h7 => ?_)
      · omega
      · refine zaload_4_0 dX5_meet_10 ?_
        refine ziload_4_1 dX5_meet_11 ?_
        refine ziload_4_3 dX5_meet_12 ?_
        refine zc_Rows_116 rfl dX5_meet_13 (by decide) (Nat.le_of_ble_eq_true rfl) (sp_Rows_at M q N Ws S a w h hN ha (by omega)) (fun r13 M13 hq13 => ?_)
        refine z_withR (fun hR => ?_)
        obtain ⟨rfl, rfl⟩ := hq13
        refine zaload_4_0 dX5_meet_16 ?_
        refine ziload_4_2 dX5_meet_17 ?_
        refine ziload_4_3 dX5_meet_18 ?_
        refine zc_Rows_116 rfl dX5_meet_19 (by decide) (Nat.le_of_ble_eq_true rfl) (sp_Rows_at M13 q N Ws S b w h hN hb (by omega)) (fun r19 M19 hq19 => ?_)
        refine z_withR (fun hR => ?_)
        obtain ⟨rfl, rfl⟩ := hq19
        refine z_iand dX5_meet_22 ?_
        refine z_top (zAnd_nat (by omega)) ?_
        rw [bm_and]
        refine z_if_eq (tgt := 28) (by first | omega | exact hR.1 _ _ (by decide) | exact zrng_toInt _) dX5_meet_23 (by decide) (fun h23 => ?_) (fun h23 => ?_)
        · refine ziinc_4_3 dX5_meet_28 ?_
          refine z_goto (tgt := 2) dX5_meet_31 (by decide) ?_
          refine ih (w + 1) (by omega) (fun ⟨w', j, h1, h2, h3, h4⟩ => ?_)
          rcases Nat.lt_or_ge w' w with q1 | q1
          · exact hy ⟨w', j, q1, h2, h3, h4⟩
          · rw [show w' = w by omega] at h2 h3 h4
            exact (bm_eq_zero _ _).mp (show bm (fun j => S (lE q w) a j && S (lE q w) b j) (lQ q w) = 0 by omega) ⟨j, h2, by simp [h3, h4]⟩
        · refine z_iconst dX5_meet_26 ?_
          refine z_zret rfl (by omega) ?_ dX5_meet_27
          obtain ⟨j, h1, h2⟩ := bm_ne0 (show ¬ bm (fun j => S (lE q w) a j && S (lE q w) b j) (lQ q w) = 0 by omega)
          simp only [Bool.and_eq_true] at h2
          exact ⟨rfl, Or.inl ⟨rfl, w, j, by omega, h1, h2⟩⟩
  refine z_iconst dX5_meet_0 ?_
  refine zistore_4_3 dX5_meet_1 ?_
  exact loop (lS q) 0 (by omega) (fun ⟨w', j, h1, _⟩ => absurd h1 (Nat.not_lt_zero _))
theorem sp_Rows_within (M : zMem) (q : Nat → Bool) (N : Nat) (Ws : Nat → Nat) (S : Nat → Nat → Nat → Bool) (a b : Nat) (h : rdy M q N Ws S) (hN : N ≤ 12) (ha : a < N) (hb : b < N) : zSp zd_Rows_within 2 [zr 6, zi a, zi b] M (fun r M' => M' = M ∧ ((r = 0 ∧ ∃ w j, w < lS q ∧ j < lQ q w ∧ S (lE q w) a j = true ∧ S (lE q w) b j = false) ∨ (r = 1 ∧ ¬ ∃ w j, w < lS q ∧ j < lQ q w ∧ S (lE q w) a j = true ∧ S (lE q w) b j = false))) := by
  refine zSp_in 1 [some (zr 6), some (zi a), some (zi b), none] rfl rfl (by decide +kernel) rfl ?_
  refine z_withR (fun hR => ?_)
  have h40 := lS_le q
  have e66 := h.1.1
  have loop : ∀ (c w : Nat), w + c = lS q → (¬ ∃ w' j, w' < w ∧ j < lQ q w' ∧ S (lE q w') a j = true ∧ S (lE q w') b j = false) → zV zd_Rows_within 2 2 [some (zr 6), some (zi a), some (zi b), some (zi w)] [] M (fun r M' => M' = M ∧ ((r = 0 ∧ ∃ w j, w < lS q ∧ j < lQ q w ∧ S (lE q w) a j = true ∧ S (lE q w) b j = false) ∨ (r = 1 ∧ ¬ ∃ w j, w < lS q ∧ j < lQ q w ∧ S (lE q w) a j = true ∧ S (lE q w) b j = false))) := by
    intro c
    induction c with
    | zero =>
      intro w hw hy
      refine ziload_4_3 dX5_within_2 ?_
      refine zaload_4_0 dX5_within_3 ?_
      refine zg_Rows_18 rfl dX5_within_4 ?_
      refine z_top e66 ?_
      refine z_icmp_ge (tgt := 36) (by first | omega | exact hR.1 _ _ (by decide) | exact zrng_toInt _) (by first | omega | exact hR.1 _ _ (by decide) | exact zrng_toInt _) dX5_within_7 (by decide) (fun h7 => ?_) (fun h7 => ?_)
      · refine z_iconst dX5_within_36 ?_
        refine z_zret rfl (by omega) ?_ dX5_within_37
        exact ⟨rfl, Or.inr ⟨rfl, fun ⟨w', j, h1, h2⟩ => hy ⟨w', j, by omega, h2⟩⟩⟩
      · omega
    | succ c ih =>
      intro w hw hy
      have hq9 := lQ_le q w
      have b1 := bm512 (S (lE q w) a) hq9.1
      have b2 := bm512 (fun j => S (lE q w) a j && !S (lE q w) b j) hq9.1
      refine ziload_4_3 dX5_within_2 ?_
      refine zaload_4_0 dX5_within_3 ?_
      refine zg_Rows_18 rfl dX5_within_4 ?_
      refine z_top e66 ?_
      refine z_icmp_ge (tgt := 36) (by first | omega | exact hR.1 _ _ (by decide) | exact zrng_toInt _) (by first | omega | exact hR.1 _ _ (by decide) | exact zrng_toInt _) dX5_within_7 (by decide) (fun h7 => ?_) (fun h7 => ?_)
      · omega
      · refine zaload_4_0 dX5_within_10 ?_
        refine ziload_4_1 dX5_within_11 ?_
        refine ziload_4_3 dX5_within_12 ?_
        refine zc_Rows_116 rfl dX5_within_13 (by decide) (Nat.le_of_ble_eq_true rfl) (sp_Rows_at M q N Ws S a w h hN ha (by omega)) (fun r13 M13 hq13 => ?_)
        refine z_withR (fun hR => ?_)
        obtain ⟨rfl, rfl⟩ := hq13
        refine zaload_4_0 dX5_within_16 ?_
        refine ziload_4_2 dX5_within_17 ?_
        refine ziload_4_3 dX5_within_18 ?_
        refine zc_Rows_116 rfl dX5_within_19 (by decide) (Nat.le_of_ble_eq_true rfl) (sp_Rows_at M13 q N Ws S b w h hN hb (by omega)) (fun r19 M19 hq19 => ?_)
        refine z_withR (fun hR => ?_)
        obtain ⟨rfl, rfl⟩ := hq19
        refine z_iconst dX5_within_22 ?_
        refine z_ixor dX5_within_23 ?_
        refine z_iand dX5_within_24 ?_
        refine z_top (zAndn (by omega)) ?_
        rw [bm_andn]
        refine z_if_eq (tgt := 30) (by first | omega | exact hR.1 _ _ (by decide) | exact zrng_toInt _) dX5_within_25 (by decide) (fun h25 => ?_) (fun h25 => ?_)
        · refine ziinc_4_3 dX5_within_30 ?_
          refine z_goto (tgt := 2) dX5_within_33 (by decide) ?_
          refine ih (w + 1) (by omega) (fun ⟨w', j, h1, h2, h3, h4⟩ => ?_)
          rcases Nat.lt_or_ge w' w with q1 | q1
          · exact hy ⟨w', j, q1, h2, h3, h4⟩
          · rw [show w' = w by omega] at h2 h3 h4
            exact (bm_eq_zero _ _).mp (show bm (fun j => S (lE q w) a j && !S (lE q w) b j) (lQ q w) = 0 by omega) ⟨j, h2, by simp [h3, h4]⟩
        · refine z_iconst dX5_within_28 ?_
          refine z_zret rfl (by omega) ?_ dX5_within_29
          obtain ⟨j, h1, h2⟩ := bm_ne0 (show ¬ bm (fun j => S (lE q w) a j && !S (lE q w) b j) (lQ q w) = 0 by omega)
          simp only [Bool.and_eq_true, Bool.not_eq_true'] at h2
          exact ⟨rfl, Or.inl ⟨rfl, w, j, by omega, h1, h2⟩⟩
  refine z_iconst dX5_within_0 ?_
  refine zistore_4_3 dX5_within_1 ?_
  exact loop (lS q) 0 (by omega) (fun ⟨w', j, h1, _⟩ => absurd h1 (Nat.not_lt_zero _))
theorem sp_Rows_rare (M : zMem) (y p : Nat) (hp : M 6 7 = p) (hy : y ≤ p) (hp2 : p < 1000) : zSp zd_Rows_rare 1 [zr 6, zi y] M (fun r M' => M' = M ∧ r = ((min y (p - y) : Nat) : Int)) := by
  refine zSp_in 0 [some (zr 6), some (zi y)] rfl rfl (by decide +kernel) rfl ?_
  refine z_withR (fun hR => ?_)
  refine ziload_2_1 dX5_rare_0 ?_
  refine zaload_2_0 dX5_rare_1 ?_
  refine zg_Rows_22 rfl dX5_rare_2 ?_
  refine z_top hp ?_
  refine ziload_2_1 dX5_rare_5 ?_
  refine z_isub dX5_rare_6 ?_
  refine zc_Rows_130 rfl dX5_rare_7 (by decide) (Nat.le_of_ble_eq_true rfl) (by first | omega | exact hR.1 _ _ (by decide) | exact zrng_toInt _) (by first | omega | exact hR.1 _ _ (by decide) | exact zrng_toInt _) ?_
  refine z_iret rfl ?_ dX5_rare_10
  refine ⟨rfl, ?_⟩
  split <;> omega
