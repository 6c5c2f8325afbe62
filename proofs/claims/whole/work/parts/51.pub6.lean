noncomputable def cRare (B : Nat → Nat → Nat) (n : Nat) : Nat := min (cMany B n) (lP (wK B) (lS (wK B)) - cMany B n)
noncomputable def cServ (B : Nat → Nat → Nat) (n : Nat) : Nat := fb_ct (svF (wK B) (bS B) (bAw B) n) (B 6 0)
noncomputable def wO (B : Nat → Nat → Nat) (n : Nat) : Int := (B 11 0 : Int) * (cRare B n : Int) + (B 11 1 : Int) * (cServ B n : Int) - (B 11 2 : Int) * (dp (B 7) (B 8) (B 9) n : Int)
theorem cMany_le {B : Nat → Nat → Nat} {n : Nat} : cMany B n ≤ lP (wK B) (lS (wK B)) ∧ lP (wK B) (lS (wK B)) ≤ 360 := by
  have h1 := lC_le (wK B) (fun w => bS B (lE (wK B) w) n) (lS (wK B))
  have h2 := lP_le (wK B) (lS (wK B))
  have h3 := lS_le (wK B)
  unfold cMany
  omega
theorem mul_bd {a b c : Nat} (ha : a ≤ 9) (hb : b ≤ c) : (0 : Int) ≤ (a : Int) * (b : Int) ∧ (a : Int) * (b : Int) ≤ 9 * c := by
  have h : a * b ≤ 9 * c := Nat.mul_le_mul ha hb
  have e : (a : Int) * (b : Int) = ((a * b : Nat) : Int) := (Int.natCast_mul a b).symm
  rw [e]
  omega
theorem wO_bd {M : zMem} {B : Nat → Nat → Nat} (h : abC0 M B) {n : Nat} (hn : n < B 6 0) : ((0 : Int) ≤ (B 11 0 : Int) * (cRare B n : Int) ∧ (B 11 0 : Int) * (cRare B n : Int) ≤ 3240) ∧ ((0 : Int) ≤ (B 11 1 : Int) * (cServ B n : Int) ∧ (B 11 1 : Int) * (cServ B n : Int) ≤ 108) ∧ ((0 : Int) ≤ (B 11 2 : Int) * (dp (B 7) (B 8) (B 9) n : Int) ∧ (B 11 2 : Int) * (dp (B 7) (B 8) (B 9) n : Int) ≤ 36864) := by
  obtain ⟨h1, h2, h3, h4, h5, h6, h7, h8⟩ := h
  have c1 : cRare B n ≤ 360 := by have := cMany_le (B := B) (n := n); unfold cRare; omega
  have c2 : cServ B n ≤ 12 := Nat.le_trans (fb_ct_le _ _) h4.2.1
  have c3 : dp (B 7) (B 8) (B 9) n ≤ 4096 := by
    have := (nn_lt h4.2.2.1 n hn).2.1
    have h12 := h4.2.1
    have p : 2 ^ (n + 1) ≤ 2 ^ 12 := Nat.pow_le_pow_right (by decide) (by omega)
    omega
  exact ⟨mul_bd (h6 0 (by omega)).2 c1, mul_bd (h6 1 (by omega)).2 c2, mul_bd (h6 2 (by omega)).2 c3⟩
theorem sp_S_worthOf (M : zMem) (B : Nat → Nat → Nat) (Ws : Nat → Nat) (n : Nat) (h : abC0 M B) (hrd : rdy M (wK B) (B 6 0) Ws (bS B)) (hn : n < B 6 0) : zSp zd_S_worthOf 4 [zr 0, zi n] M (fun r M' => M' = M ∧ r = wO B n) := by
  refine zSp_in 0 [some (zr 0), some (zi n)] rfl rfl (by decide +kernel) rfl ?_
  refine z_withR (fun hR => ?_)
  have n12 := h.2.2.2.1.2.1
  have hpt := h.2.2.2.2.2.1
  have w0 := (hpt 0 (by omega)).1
  have w1 := (hpt 1 (by omega)).1
  have w2 := (hpt 2 (by omega)).1
  have hb := wO_bd h hn
  have hm := cMany_le (B := B) (n := n)
  have hdp := (h.2.2.2.1.2.2.2 n hn).2.2
  refine zaload_2_0 dX8_worthOf_0 ?_
  refine zg_S_62 rfl dX8_worthOf_1 ?_
  refine z_iconst dX8_worthOf_4 ?_
  refine z_iald (0) rfl (by decide) (by decide) rfl (by omega) dX8_worthOf_5 ?_
  refine z_top w0 ?_
  refine zaload_2_0 dX8_worthOf_6 ?_
  refine zg_S_51 rfl dX8_worthOf_7 ?_
  refine zaload_2_0 dX8_worthOf_10 ?_
  refine zg_S_51 rfl dX8_worthOf_11 ?_
  refine ziload_2_1 dX8_worthOf_14 ?_
  refine zc_S_156 rfl dX8_worthOf_15 (by decide) (Nat.le_of_ble_eq_true rfl) (sp_Rows_pairsOf M (wK B) (B 6 0) Ws (bS B) n hrd n12 hn) (fun r15 M15 hq15 => ?_)
  refine z_withR (fun hR => ?_)
  have e15 := hq15.1.symm
  subst e15
  have q15 := hq15.2
  have q15 : r15 = (cMany B n : Int) := q15
  subst q15
  refine zc_S_182 rfl dX8_worthOf_18 (by decide) (Nat.le_of_ble_eq_true rfl) (sp_Rows_rare M (cMany B n) (lP (wK B) (lS (wK B))) hrd.1.2.1 hm.1 (by omega)) (fun r18 M18 hq18 => ?_)
  refine z_withR (fun hR => ?_)
  have e18 := hq18.1.symm
  subst e18
  have q18 := hq18.2
  have q18 : r18 = (cRare B n : Int) := q18
  subst q18
  refine z_imul dX8_worthOf_21 ?_
  refine zaload_2_0 dX8_worthOf_22 ?_
  refine zg_S_62 rfl dX8_worthOf_23 ?_
  refine z_iconst dX8_worthOf_26 ?_
  refine z_iald (1) rfl (by decide) (by decide) rfl (by omega) dX8_worthOf_27 ?_
  refine z_top w1 ?_
  refine zaload_2_0 dX8_worthOf_28 ?_
  refine zg_S_51 rfl dX8_worthOf_29 ?_
  refine ziload_2_1 dX8_worthOf_32 ?_
  refine zc_S_185 rfl dX8_worthOf_33 (by decide) (Nat.le_of_ble_eq_true rfl) (sp_Rows_serves M (wK B) (B 6 0) Ws (bS B) (bAw B) n hrd n12 h.2.2.2.1.1 h.2.2.2.2.1 hn) (fun r33 M33 hq33 => ?_)
  refine z_withR (fun hR => ?_)
  have e33 := hq33.1.symm
  subst e33
  have q33 := hq33.2
  have q33 : r33 = (cServ B n : Int) := q33
  subst q33
  refine z_imul dX8_worthOf_36 ?_
  refine z_iadd dX8_worthOf_37 ?_
  refine zaload_2_0 dX8_worthOf_38 ?_
  refine zg_S_62 rfl dX8_worthOf_39 ?_
  refine z_iconst dX8_worthOf_42 ?_
  refine z_iald (2) rfl (by decide) (by decide) rfl (by omega) dX8_worthOf_43 ?_
  refine z_top w2 ?_
  refine zaload_2_0 dX8_worthOf_44 ?_
  refine zg_S_42 rfl dX8_worthOf_45 ?_
  refine zg_S_188 rfl dX8_worthOf_48 ?_
  refine ziload_2_1 dX8_worthOf_51 ?_
  refine z_iald _ rfl (by decide) (by decide) rfl (by omega) dX8_worthOf_52 ?_
  refine z_top hdp ?_
  refine z_imul dX8_worthOf_53 ?_
  refine z_isub dX8_worthOf_54 ?_
  refine z_iret rfl ?_ dX8_worthOf_55
  exact ⟨rfl, rfl⟩
noncomputable def fWorth (B : Nat → Nat → Nat) (n w : Int) : Int := if inR n (B 6 0) then (if w = 0 then (cRare B n.toNat : Int) else if w = 1 then (cServ B n.toNat : Int) else if w = 2 then (dp (B 7) (B 8) (B 9) n.toNat : Int) else if w = 3 then wO B n.toNat + 100000 else -2) else -1
theorem sp_S_worth (M : zMem) (B : Nat → Nat → Nat) (n w : Int) (hn : zrng n) (hw : zrng w) (h : abC M B) : zSp zd_S_worth 6 [zr 0, zi n, zi w] M (fun r M' => cOK M M' B r (fWorth B n w)) := by
  refine zSp_in 0 [some (zr 0), some (zi n), some (zi w)] rfl rfl (by decide +kernel) rfl ?_
  refine z_withR (fun hR => ?_)
  have n1 := h.1.2.2.2.1.1
  have n12 := h.1.2.2.2.1.2.1
  refine zaload_3_0 dX8_worth_0 ?_
  refine zg_S_42 rfl dX8_worth_1 ?_
  refine ziload_3_1 dX8_worth_4 ?_
  refine zc_S_152 rfl dX8_worth_5 (by decide) (Nat.le_of_ble_eq_true rfl) (sp_Notions_has M n hn) (fun r5 M5 hq5 => ?_)
  refine z_withR (fun hR => ?_)
  have e5 := hq5.1.symm
  subst e5
  have q5 := hq5.2
  rw [n1] at q5
  have q5 := or_if q5
  refine z_if_ne (tgt := 13) (or_rng q5) dX8_worth_8 (by decide) (fun h8 => ?_) (fun h8 => ?_)
  · have y5 := or_yes q5 h8
    obtain ⟨n', rfl⟩ : ∃ n' : Nat, n = n' := ⟨n.toNat, by omega⟩
    refine ziload_3_2 dX8_worth_13 ?_
    refine z_if_lt (tgt := 22) (by first | omega | exact hR.1 _ _ (by decide) | exact zrng_toInt _) dX8_worth_14 (by decide) (fun h14 => ?_) (fun h14 => ?_)
    · refine z_bipush dX8_worth_22 (by decide) ?_
      refine z_iret rfl ?_ dX8_worth_24
      unfold fWorth
      rw [if_pos y5, if_neg (by omega), if_neg (by omega), if_neg (by omega), if_neg (by omega)]
      exact ⟨rfl, zfr.rf, h⟩
    · refine ziload_3_2 dX8_worth_17 ?_
      refine z_iconst dX8_worth_18 ?_
      refine z_icmp_le (tgt := 25) (by first | omega | exact hR.1 _ _ (by decide) | exact zrng_toInt _) (by first | omega | exact hR.1 _ _ (by decide) | exact zrng_toInt _) dX8_worth_19 (by decide) (fun h19 => ?_) (fun h19 => ?_)
      · refine zaload_3_0 dX8_worth_25 ?_
        refine zc_S_103 rfl dX8_worth_26 (by decide) (Nat.le_of_ble_eq_true rfl) (sp_S_settle M B h) (fun r26 M26 hq26 => ?_)
        refine z_withR (fun hR => ?_)
        obtain ⟨f26, h0, hO, hs⟩ := hq26
        obtain ⟨⟨_, hcat⟩, _, _, _, _, _, Ws, hrd⟩ := id hs
        have hm := cMany_le (B := B) (n := n')
        have hdp := (h0.2.2.2.1.2.2.2 n' (by omega)).2.2
        have hb := wO_bd h0 (n := n') (by omega)
        refine ziload_3_2 dX8_worth_29 ?_
        rcases (show w = 0 ∨ w = 1 ∨ w = 2 ∨ (w < 0 ∨ 2 < w) from by omega) with h30 | h30 | h30 | h30
        · refine z_swIn (tgt := 56) 0 (by first | omega | exact hR.1 _ _ (by decide) | exact zrng_toInt _) (by omega) dX8_worth_30 (by decide) rfl (by decide) ?_
          refine zaload_3_0 dX8_worth_56 ?_
          refine zg_S_51 rfl dX8_worth_57 ?_
          refine zaload_3_0 dX8_worth_60 ?_
          refine zg_S_51 rfl dX8_worth_61 ?_
          refine ziload_3_1 dX8_worth_64 ?_
          refine zc_S_156 rfl dX8_worth_65 (by decide) (Nat.le_of_ble_eq_true rfl) (sp_Rows_pairsOf M26 (wK B) (B 6 0) Ws (bS B) n' hrd n12 (by omega)) (fun r65 M65 hq65 => ?_)
          refine z_withR (fun hR => ?_)
          have e65 := hq65.1.symm
          subst e65
          have q65 := hq65.2
          have q65 : r65 = (cMany B n' : Int) := q65
          subst q65
          refine zc_S_182 rfl dX8_worth_68 (by decide) (Nat.le_of_ble_eq_true rfl) (sp_Rows_rare M26 (cMany B n') (lP (wK B) (lS (wK B))) hrd.1.2.1 hm.1 (by omega)) (fun r68 M68 hq68 => ?_)
          refine z_withR (fun hR => ?_)
          have e68 := hq68.1.symm
          subst e68
          have q68 := hq68.2
          refine z_iret rfl ?_ dX8_worth_71
          refine ⟨?_, f26.up (by decide), h0, hO, hs.abK⟩
          unfold fWorth
          rw [if_pos y5, Int.toNat_natCast, if_pos h30]
          exact q68
        · refine z_swIn (tgt := 72) 1 (by first | omega | exact hR.1 _ _ (by decide) | exact zrng_toInt _) (by omega) dX8_worth_30 (by decide) rfl (by decide) ?_
          refine zaload_3_0 dX8_worth_72 ?_
          refine zg_S_51 rfl dX8_worth_73 ?_
          refine ziload_3_1 dX8_worth_76 ?_
          refine zc_S_185 rfl dX8_worth_77 (by decide) (Nat.le_of_ble_eq_true rfl) (sp_Rows_serves M26 (wK B) (B 6 0) Ws (bS B) (bAw B) n' hrd n12 h0.2.2.2.1.1 h0.2.2.2.2.1 (by omega)) (fun r77 M77 hq77 => ?_)
          refine z_withR (fun hR => ?_)
          have e77 := hq77.1.symm
          subst e77
          have q77 := hq77.2
          refine z_iret rfl ?_ dX8_worth_80
          refine ⟨?_, f26.up (by decide), h0, hO, hs.abK⟩
          unfold fWorth
          rw [if_pos y5, Int.toNat_natCast, if_neg (by omega), if_pos h30]
          exact q77
        · refine z_swIn (tgt := 81) 2 (by first | omega | exact hR.1 _ _ (by decide) | exact zrng_toInt _) (by omega) dX8_worth_30 (by decide) rfl (by decide) ?_
          refine zaload_3_0 dX8_worth_81 ?_
          refine zg_S_42 rfl dX8_worth_82 ?_
          refine zg_S_188 rfl dX8_worth_85 ?_
          refine ziload_3_1 dX8_worth_88 ?_
          refine z_iald _ rfl (by decide) (by decide) rfl (by omega) dX8_worth_89 ?_
          refine z_top hdp ?_
          refine z_iret rfl ?_ dX8_worth_90
          refine ⟨?_, f26.up (by decide), h0, hO, hs.abK⟩
          unfold fWorth
          rw [if_pos y5, Int.toNat_natCast, if_neg (by omega), if_neg (by omega), if_pos h30]
        · refine z_swOut (tgt := 91) (by first | omega | exact hR.1 _ _ (by decide) | exact zrng_toInt _) dX8_worth_30 (by omega) (by decide) ?_
          refine zaload_3_0 dX8_worth_91 ?_
          refine ziload_3_1 dX8_worth_92 ?_
          refine zc_S_191 rfl dX8_worth_93 (by decide) (Nat.le_of_ble_eq_true rfl) (sp_S_worthOf M26 B Ws n' h0 hrd (by omega)) (fun r93 M93 hq93 => ?_)
          refine z_withR (fun hR => ?_)
          have e93 := hq93.1.symm
          subst e93
          have q93 := hq93.2
          have hb2 : -40000 ≤ wO B n' ∧ wO B n' ≤ 40000 := by unfold wO; omega
          subst q93
          refine zk_S_177 rfl dX8_worth_96 ?_
          refine z_iadd dX8_worth_98 ?_
          refine z_iret rfl ?_ dX8_worth_99
          refine ⟨?_, f26.up (by decide), h0, hO, hs.abK⟩
          unfold fWorth
          rw [if_pos y5, Int.toNat_natCast, if_neg (by omega), if_neg (by omega), if_neg (by omega), if_pos (by omega)]
      · refine z_bipush dX8_worth_22 (by decide) ?_
        refine z_iret rfl ?_ dX8_worth_24
        unfold fWorth
        rw [if_pos y5, if_neg (by omega), if_neg (by omega), if_neg (by omega), if_neg (by omega)]
        exact ⟨rfl, zfr.rf, h⟩
  · have y5 := or_no q5 h8
    refine z_iconst dX8_worth_11 ?_
    refine z_iret rfl ?_ dX8_worth_12
    unfold fWorth
    rw [if_neg y5]
    exact ⟨rfl, zfr.rf, h⟩
noncomputable def bst (B : Nat → Nat → Nat) : Nat → Int
  | 0 => -9
  | i + 1 => if bAw B i = true ∧ (bst B i = -9 ∨ wO B (bst B i).toNat < wO B i) then (i : Int) else bst B i
theorem bst_rng {B : Nat → Nat → Nat} : ∀ i, bst B i = -9 ∨ (0 ≤ bst B i ∧ bst B i < i)
  | 0 => Or.inl rfl
  | i + 1 => by
    rw [bst]
    have := bst_rng (B := B) i
    split <;> omega
theorem sp_S_best (M : zMem) (B : Nat → Nat → Nat) (h : abC M B) : zSp zd_S_best 6 [zr 0] M (fun r M' => cOK M M' B r (bst B (B 6 0))) := by
  refine zSp_in 4 [some (zr 0), none, none, none, none] rfl rfl (by decide +kernel) rfl ?_
  refine z_withR (fun hR => ?_)
  have n12 := h.1.2.2.2.1.2.1
  obtain ⟨post, hpost⟩ : ∃ post : Int → zMem → Prop, post = (fun (r : Int) M' => cOK M M' B r (bst B (B 6 0))) := ⟨_, rfl⟩
  rw [← hpost]
  have lp : ∀ (M1 : zMem) (Ws : Nat → Nat), abC0 M1 B → rdy M1 (wK B) (B 6 0) Ws (bS B) → (∀ r : Int, r = bst B (B 6 0) → post r M1) → ∀ (c i : Nat) (m : Int) (l4 : Option zAV), i + c = B 6 0 → zrng m → (¬ bst B i = -9 → m = wO B (bst B i).toNat) → zV zd_S_best 6 11 [some (zr 0), some (zi (bst B i)), some (zi m), some (zi i), l4] [] M1 post := by
    intro M1 Ws h0 hrd done c
    have hsz := h0.2.2.2.1.1
    have haw := h0.2.2.2.2.1
    induction c with
    | zero =>
      intro i m l4 hi hm0 hm
      refine z_withR (fun hR => ?_)
      refine ziload_5_3 dX8_best_11 ?_
      refine zaload_5_0 dX8_best_12 ?_
      refine zg_S_42 rfl dX8_best_13 ?_
      refine zg_S_194 rfl dX8_best_16 ?_
      refine z_top hsz ?_
      refine z_icmp_ge (tgt := 64) (by first | omega | exact hR.1 _ _ (by decide) | exact zrng_toInt _) (by first | omega | exact hR.1 _ _ (by decide) | exact zrng_toInt _) dX8_best_19 (by decide) (fun h19 => ?_) (fun h19 => ?_)
      · refine ziload_5_1 dX8_best_64 ?_
        refine z_iret rfl ?_ dX8_best_65
        exact done _ (by rw [show i = B 6 0 by omega])
      · omega
    | succ c ih =>
      intro i m l4 hi hm0 hm
      have hA := haw i (by omega)
      have hb := wO_bd h0 (n := i) (by omega)
      have hb2 : -40000 ≤ wO B i ∧ wO B i ≤ 40000 := by unfold wO; omega
      have hbr := bst_rng (B := B) i
      have hst : bst B (i + 1) = if bAw B i = true ∧ (bst B i = -9 ∨ wO B (bst B i).toNat < wO B i) then (i : Int) else bst B i := rfl
      have keep : ∀ l4, ¬ (bAw B i = true ∧ (bst B i = -9 ∨ wO B (bst B i).toNat < wO B i)) → zV zd_S_best 6 58 [some (zr 0), some (zi (bst B i)), some (zi m), some (zi i), l4] [] M1 post := by
        intro l4 hno
        rw [if_neg hno] at hst
        have k := ih (i + 1) m l4 (by omega) hm0 (by rw [hst]; exact hm)
        rw [hst] at k
        refine z_withR (fun hR => ?_)
        refine ziinc_5_3 dX8_best_58 ?_
        refine z_goto (tgt := 11) dX8_best_61 (by decide) ?_
        exact k
      have take : ∀ l4, (bAw B i = true ∧ (bst B i = -9 ∨ wO B (bst B i).toNat < wO B i)) → zV zd_S_best 6 58 [some (zr 0), some (zi i), some (zi (wO B i)), some (zi i), l4] [] M1 post := by
        intro l4 hyes
        rw [if_pos hyes] at hst
        have k := ih (i + 1) (wO B i) l4 (by omega) (by unfold zrng; omega) (by rw [hst]; intro _; rfl)
        rw [hst] at k
        refine z_withR (fun hR => ?_)
        refine ziinc_5_3 dX8_best_58 ?_
        refine z_goto (tgt := 11) dX8_best_61 (by decide) ?_
        exact k
      refine z_withR (fun hR => ?_)
      refine ziload_5_3 dX8_best_11 ?_
      refine zaload_5_0 dX8_best_12 ?_
      refine zg_S_42 rfl dX8_best_13 ?_
      refine zg_S_194 rfl dX8_best_16 ?_
      refine z_top hsz ?_
      refine z_icmp_ge (tgt := 64) (by first | omega | exact hR.1 _ _ (by decide) | exact zrng_toInt _) (by first | omega | exact hR.1 _ _ (by decide) | exact zrng_toInt _) dX8_best_19 (by decide) (fun h19 => ?_) (fun h19 => ?_)
      · omega
      · refine zaload_5_0 dX8_best_22 ?_
        refine zg_S_42 rfl dX8_best_23 ?_
        refine zg_S_178 rfl dX8_best_26 ?_
        refine ziload_5_3 dX8_best_29 ?_
        refine z_zald _ rfl (by decide) (by decide) rfl (by omega) dX8_best_30 ?_
        refine z_top hA ?_
        refine z_if_eq (tgt := 58) (by split <;> decide) dX8_best_31 (by decide) (fun h31 => ?_) (fun h31 => ?_)
        · have hno : ¬ bAw B i = true := fun z => by rw [if_pos z] at h31; exact absurd h31 (by decide)
          first
            | exact keep _ (fun z => hno z.1)
            | exact take _ ⟨hyes, Or.inl h44⟩
            | (rw [hm h44] at h50; exact take _ ⟨hyes, Or.inr (by omega)⟩)
            | (refine keep _ (fun z => ?_)
               rcases z.2 with q | q
               · exact h44 q
               · rw [← hm h44] at q; omega)
        · have hyes : bAw B i = true := by by_cases z : bAw B i = true; exact z; rw [if_neg z] at h31; exact absurd rfl h31
          refine zaload_5_0 dX8_best_34 ?_
          refine ziload_5_3 dX8_best_35 ?_
          refine zc_S_191 rfl dX8_best_36 (by decide) (Nat.le_of_ble_eq_true rfl) (sp_S_worthOf M1 B Ws i h0 hrd (by omega)) (fun r36 M36 hq36 => ?_)
          refine z_withR (fun hR => ?_)
          have e36 := hq36.1.symm
          subst e36
          have q36 := hq36.2
          subst q36
          refine zistore_5_4 dX8_best_39 ?_
          refine ziload_5_1 dX8_best_41 ?_
          refine z_bipush dX8_best_42 (by decide) ?_
          refine z_icmp_eq (tgt := 53) (by first | omega | exact hR.1 _ _ (by decide) | exact zrng_toInt _) (by first | omega | exact hR.1 _ _ (by decide) | exact zrng_toInt _) dX8_best_44 (by decide) (fun h44 => ?_) (fun h44 => ?_)
          · refine ziload_5_3 dX8_best_53 ?_
            refine zistore_5_1 dX8_best_54 ?_
            refine ziload_5_4 dX8_best_55 ?_
            refine zistore_5_2 dX8_best_57 ?_
            first
              | exact keep _ (fun z => hno z.1)
              | exact take _ ⟨hyes, Or.inl h44⟩
              | (rw [hm h44] at h50; exact take _ ⟨hyes, Or.inr (by omega)⟩)
              | (refine keep _ (fun z => ?_)
                 rcases z.2 with q | q
                 · exact h44 q
                 · rw [← hm h44] at q; omega)
          · refine ziload_5_4 dX8_best_47 ?_
            refine ziload_5_2 dX8_best_49 ?_
            refine z_icmp_le (tgt := 58) (by first | omega | exact hR.1 _ _ (by decide) | exact zrng_toInt _) (by first | omega | exact hR.1 _ _ (by decide) | exact zrng_toInt _) dX8_best_50 (by decide) (fun h50 => ?_) (fun h50 => ?_)
            · first
                | exact keep _ (fun z => hno z.1)
                | exact take _ ⟨hyes, Or.inl h44⟩
                | (rw [hm h44] at h50; exact take _ ⟨hyes, Or.inr (by omega)⟩)
                | (refine keep _ (fun z => ?_)
                   rcases z.2 with q | q
                   · exact h44 q
                   · rw [← hm h44] at q; omega)
            · refine ziload_5_3 dX8_best_53 ?_
              refine zistore_5_1 dX8_best_54 ?_
              refine ziload_5_4 dX8_best_55 ?_
              refine zistore_5_2 dX8_best_57 ?_
              first
                | exact keep _ (fun z => hno z.1)
                | exact take _ ⟨hyes, Or.inl h44⟩
                | (rw [hm h44] at h50; exact take _ ⟨hyes, Or.inr (by omega)⟩)
                | (refine keep _ (fun z => ?_)
                   rcases z.2 with q | q
                   · exact h44 q
                   · rw [← hm h44] at q; omega)
  refine zaload_5_0 dX8_best_0 ?_
  refine zc_S_103 rfl dX8_best_1 (by decide) (Nat.le_of_ble_eq_true rfl) (sp_S_settle M B h) (fun r1 M1 hq1 => ?_)
  refine z_withR (fun hR => ?_)
  obtain ⟨f1, h0, hO, hs⟩ := hq1
  obtain ⟨⟨_, hcat⟩, _, _, _, _, _, Ws, hrd⟩ := id hs
  refine z_bipush dX8_best_4 (by decide) ?_
  refine zistore_5_1 dX8_best_6 ?_
  refine z_iconst dX8_best_7 ?_
  refine zistore_5_2 dX8_best_8 ?_
  refine z_iconst dX8_best_9 ?_
  refine zistore_5_3 dX8_best_10 ?_
  exact lp M1 Ws h0 hrd (fun r hr => by rw [hpost]; exact ⟨hr, f1.up (by decide), h0, hO, hs.abK⟩) (B 6 0) 0 0 _ (by omega) (by decide) (fun z => absurd rfl z)
