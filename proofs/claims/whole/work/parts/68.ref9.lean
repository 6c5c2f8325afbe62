theorem lS_lT (B : Nat → Nat → Nat) : lS (wK B) = min 40 (lT B) := rfl
theorem lT_le (B : Nat → Nat → Nat) : lT B ≤ 3341 := fb_ct_le _ _
theorem sp_Model_onList (M : zMem) (B : Nat → Nat → Nat) (h : M 9 15 = lT B) : zSp zd_Model_onList 0 [zr 9] M (fun r M' => M' = M ∧ r = lS (wK B)) := by
  refine zSp_in 0 [some (zr 9)] rfl rfl (by decide +kernel) rfl ?_
  refine z_withR (fun hR => ?_)
  have h1 := lS_lT B
  have h2 := lT_le B
  refine zaload_1_0 dX9_onList_0 ?_
  refine zg_Model_157 rfl dX9_onList_1 ?_
  refine z_top h ?_
  refine z_bipush dX9_onList_4 (by decide) ?_
  refine z_icmp_ge (tgt := 16) (by first | omega | exact hR.1 _ _ (by decide) | exact zrng_toInt _) (by first | omega | exact hR.1 _ _ (by decide) | exact zrng_toInt _) dX9_onList_6 (by decide) (fun h6 => ?_) (fun h6 => ?_)
  · refine z_bipush dX9_onList_16 (by decide) ?_
    refine z_iret rfl ?_ dX9_onList_18
    refine ⟨rfl, ?_⟩
    omega
  · refine zaload_1_0 dX9_onList_9 ?_
    refine zg_Model_157 rfl dX9_onList_10 ?_
    refine z_top h ?_
    refine z_goto (tgt := 18) dX9_onList_13 (by decide) ?_
    refine z_iret rfl ?_ dX9_onList_18
    refine ⟨rfl, ?_⟩
    omega
theorem lP_succ (q : Nat → Bool) (w : Nat) : lP q (w + 1) = lP q w + eSz (lE q w) * eSz (lE q w) := rfl
theorem sp_Model_pairs (M : zMem) (B : Nat → Nat → Nat) (h : laid M B) : zSp zd_Model_pairs 1 [zr 9] M (fun r M' => zfr [47] M M' ∧ (∀ w, w ≤ lS (wK B) → M' 47 w = lP (wK B) w) ∧ r = lP (wK B) (lS (wK B))) := by
  refine zSp_in 3 [some (zr 9), none, none, none] rfl rfl (by decide +kernel) rfl ?_
  refine z_withR (fun hR => ?_)
  have hl40 := lS_le (wK B)
  have hlT : lS (wK B) ≤ lT B := by have := lS_lT B; omega
  obtain ⟨post, hpost⟩ : ∃ post : Int → zMem → Prop, post = (fun (r : Int) M' => zfr [47] M M' ∧ (∀ w, w ≤ lS (wK B) → M' 47 w = lP (wK B) w) ∧ r = lP (wK B) (lS (wK B))) := ⟨_, rfl⟩
  rw [← hpost]
  have loop : ∀ (c w : Nat) (M1 : zMem) (l3 : Option zAV), w + c = lS (wK B) → zfr [47] M M1 → (∀ w', w' < w → M1 47 w' = lP (wK B) w') → zV zd_Model_pairs 1 4 [some (zr 9), some (zi (lP (wK B) w : Nat)), some (zi w), l3] [] M1 post := by
    intro c
    induction c with
    | zero =>
      intro w M1 l3 hw hf hp
      have h1 := h.fr hf (by rw [hf 9 (by decide)]) (by decide) (by decide)
      have hle := lP_le (wK B) w
      refine z_withR (fun hR => ?_)
      refine ziload_4_2 dX9_pairs_4 ?_
      refine zaload_4_0 dX9_pairs_5 ?_
      refine zc_Model_181 rfl dX9_pairs_6 (by decide) (Nat.le_of_ble_eq_true rfl) (sp_Model_onList M1 B h1.2.1) (fun r6 M6 hq6 => ?_)
      refine z_withR (fun hR => ?_)
      have e6 := hq6.1.symm
      subst e6
      have q6 := hq6.2
      subst q6
      refine z_icmp_ge (tgt := 41) (by first | omega | exact hR.1 _ _ (by decide) | exact zrng_toInt _) (by first | omega | exact hR.1 _ _ (by decide) | exact zrng_toInt _) dX9_pairs_9 (by decide) (fun h9 => ?_) (fun h9 => ?_)
      · refine zaload_4_0 dX9_pairs_41 ?_
        refine zg_Model_51 rfl dX9_pairs_42 ?_
        refine zaload_4_0 dX9_pairs_45 ?_
        refine zc_Model_181 rfl dX9_pairs_46 (by decide) (Nat.le_of_ble_eq_true rfl) (sp_Model_onList M1 B h1.2.1) (fun r46 M46 hq46 => ?_)
        refine z_withR (fun hR => ?_)
        have e46 := hq46.1.symm
        subst e46
        have q46 := hq46.2
        subst q46
        refine ziload_4_1 dX9_pairs_49 ?_
        refine z_iast _ (by decide) rfl (by decide) (by decide) rfl (by omega) (by first | omega | exact hR.1 _ _ (by decide) | exact zrng_toInt _) dX9_pairs_50 ?_
        refine z_withR (fun hR => ?_)
        refine ziload_4_1 dX9_pairs_51 ?_
        refine z_iret rfl ?_ dX9_pairs_52
        rw [hpost]
        have e : w = lS (wK B) := by omega
        refine ⟨hf.mu (by decide), fun w' hw' => ?_, by rw [e]⟩
        by_cases e2 : w' = lS (wK B)
        · rw [e2, zmu_same, e]
        · rw [zmu_ne _ _ _ _ e2]; exact hp w' (by omega)
      · omega
    | succ c ih =>
      intro w M1 l3 hw hf hp
      have h1 := h.fr hf (by rw [hf 9 (by decide)]) (by decide) (by decide)
      have hE := (lE_okA (q := wK B) (j := w) (by show w < lT B; omega)).1
      obtain ⟨p1, p2, p3, p4⟩ := pe_ok hE
      have eL := h1.2.2 w (by omega)
      have hle := lP_le (wK B) w
      have hs3 := (okn_eSz (lE (wK B) w)).le
      have hst := lP_succ (wK B) w
      have k := ih (w + 1)
      rw [hst] at k
      have hq9 := (lQ_le (wK B) w).1
      have hq9' : eSz (lE (wK B) w) * eSz (lE (wK B) w) ≤ 9 := hq9
      refine z_withR (fun hR => ?_)
      refine ziload_4_2 dX9_pairs_4 ?_
      refine zaload_4_0 dX9_pairs_5 ?_
      refine zc_Model_181 rfl dX9_pairs_6 (by decide) (Nat.le_of_ble_eq_true rfl) (sp_Model_onList M1 B h1.2.1) (fun r6 M6 hq6 => ?_)
      refine z_withR (fun hR => ?_)
      have e6 := hq6.1.symm
      subst e6
      have q6 := hq6.2
      subst q6
      refine z_icmp_ge (tgt := 41) (by first | omega | exact hR.1 _ _ (by decide) | exact zrng_toInt _) (by first | omega | exact hR.1 _ _ (by decide) | exact zrng_toInt _) dX9_pairs_9 (by decide) (fun h9 => ?_) (fun h9 => ?_)
      · omega
      · refine zaload_4_0 dX9_pairs_12 ?_
        refine zg_Model_48 rfl dX9_pairs_13 ?_
        refine ziload_4_2 dX9_pairs_16 ?_
        refine z_iald _ rfl (by decide) (by decide) rfl (by omega) dX9_pairs_17 ?_
        refine z_top eL ?_
        refine zc_Model_120 rfl dX9_pairs_18 (by decide) (Nat.le_of_ble_eq_true rfl) (sp_Model_sizeAt M1 (pe (lE (wK B) w)) p1) (fun r18 M18 hq18 => ?_)
        refine z_withR (fun hR => ?_)
        have e18 := hq18.1.symm
        subst e18
        have q18 := hq18.2
        rw [p2] at q18
        subst q18
        refine zistore_4_3 dX9_pairs_21 ?_
        refine zaload_4_0 dX9_pairs_22 ?_
        refine zg_Model_51 rfl dX9_pairs_23 ?_
        refine ziload_4_2 dX9_pairs_26 ?_
        refine ziload_4_1 dX9_pairs_27 ?_
        refine z_iast _ (by decide) rfl (by decide) (by decide) rfl (by omega) (by first | omega | exact hR.1 _ _ (by decide) | exact zrng_toInt _) dX9_pairs_28 ?_
        refine z_withR (fun hR => ?_)
        refine ziload_4_1 dX9_pairs_29 ?_
        refine ziload_4_3 dX9_pairs_30 ?_
        refine ziload_4_3 dX9_pairs_31 ?_
        refine z_imul dX9_pairs_32 ?_
        rw [← Int.natCast_mul]
        refine z_iadd dX9_pairs_33 ?_
        rw [← Int.natCast_add]
        refine zistore_4_1 dX9_pairs_34 ?_
        refine ziinc_4_2 dX9_pairs_35 ?_
        refine z_goto (tgt := 4) dX9_pairs_38 (by decide) ?_
        refine k _ _ (by omega) (hf.mu (by decide)) (fun w' hw' => ?_)
        by_cases e : w' = w
        · rw [e, zmu_same]
        · rw [zmu_ne _ _ _ _ e]; exact hp w' (by omega)
  refine z_iconst dX9_pairs_0 ?_
  refine zistore_4_1 dX9_pairs_1 ?_
  refine z_iconst dX9_pairs_2 ?_
  refine zistore_4_2 dX9_pairs_3 ?_
  exact loop (lS (wK B)) 0 M _ (by omega) zfr.rf (fun w' h => absurd h (Nat.not_lt_zero _))
theorem sp_Model_list (M : zMem) (B : Nat → Nat → Nat) (w : Int) (hw : zrng w) (h : abR M B) : zSp zd_Model_list 4 [zr 9, zi w] M (fun r M' => rOK M M' B r (fList B w)) := by
  refine zSp_in 0 [some (zr 9), some (zi w)] rfl rfl (by decide +kernel) rfl ?_
  refine z_withR (fun hR => ?_)
  refine ziload_2_1 dX9_list_0 ?_
  refine z_i2l (by first | omega | exact hR.1 _ _ (by decide) | exact zrng_toInt _) dX9_list_1 ?_
  refine z_lconst 0 dX9_list_2 rfl ?_
  refine z_lconst 1 dX9_list_3 rfl ?_
  refine zc_Model_105 rfl dX9_list_4 (by decide) (Nat.le_of_ble_eq_true rfl) (sp_Model_in M w 0 1 hw (by decide) (by decide)) (fun r4 M4 hq4 => ?_)
  refine z_withR (fun hR => ?_)
  have e4 := hq4.1.symm
  subst e4
  have q4 := hq4.2
  have q4 := or_if q4
  refine z_if_ne (tgt := 13) (or_rng q4) dX9_list_7 (by decide) (fun h7 => ?_) (fun h7 => ?_)
  · have y := or_yes q4 h7
    refine zaload_2_0 dX9_list_13 ?_
    refine zc_Model_175 rfl dX9_list_14 (by decide) (Nat.le_of_ble_eq_true rfl) (sp_Model_layAll M B h.1.1 h.1.2.2.2.1 h.cache) (fun r14 M14 hq14 => ?_)
    refine z_withR (fun hR => ?_)
    obtain ⟨f12, g12, i12, l12, c12⟩ := hq14
    have hab := h.after f12 g12 i12 l12 c12
    refine ziload_2_1 dX9_list_17 ?_
    refine z_if_ne (tgt := 28) (by first | omega | exact hR.1 _ _ (by decide) | exact zrng_toInt _) dX9_list_18 (by decide) (fun h18 => ?_) (fun h18 => ?_)
    · refine zaload_2_0 dX9_list_28 ?_
      refine zc_Model_184 rfl dX9_list_29 (by decide) (Nat.le_of_ble_eq_true rfl) (sp_Model_pairs M14 B l12) (fun r29 M29 hq29 => ?_)
      refine z_withR (fun hR => ?_)
      refine z_iret rfl ?_ dX9_list_32
      unfold fList
      first
        | (rw [if_pos h18]
           exact ⟨q22, f12.up (by decide), hab⟩)
        | (rw [if_neg h18, if_pos (by omega)]
           obtain ⟨f29, p29, q29⟩ := hq29
           exact ⟨q29, f12.tr f29 (by decide) (by decide), hab.1.fr f29 (by decide) (by rw [f29 9 (by decide)]) (by rw [f29 9 (by decide)]) (by rw [f29 9 (by decide)]), hab.2.fr f29 (by decide) (by rw [f29 9 (by decide)]) (by rw [f29 9 (by decide)]) (by rw [f29 9 (by decide)])⟩)
    · refine zaload_2_0 dX9_list_21 ?_
      refine zc_Model_181 rfl dX9_list_22 (by decide) (Nat.le_of_ble_eq_true rfl) (sp_Model_onList M14 B l12.2.1) (fun r22 M22 hq22 => ?_)
      refine z_withR (fun hR => ?_)
      have e22 := hq22.1.symm
      subst e22
      have q22 := hq22.2
      refine z_goto (tgt := 32) dX9_list_25 (by decide) ?_
      refine z_iret rfl ?_ dX9_list_32
      unfold fList
      first
        | (rw [if_pos h18]
           exact ⟨q22, f12.up (by decide), hab⟩)
        | (rw [if_neg h18, if_pos (by omega)]
           obtain ⟨f29, p29, q29⟩ := hq29
           exact ⟨q29, f12.tr f29 (by decide) (by decide), hab.1.fr f29 (by decide) (by rw [f29 9 (by decide)]) (by rw [f29 9 (by decide)]) (by rw [f29 9 (by decide)]), hab.2.fr f29 (by decide) (by rw [f29 9 (by decide)]) (by rw [f29 9 (by decide)]) (by rw [f29 9 (by decide)])⟩)
  · have y := or_no q4 h7
    refine z_bipush dX9_list_10 (by decide) ?_
    refine z_iret rfl ?_ dX9_list_12
    unfold fList
    rw [if_neg (by omega), if_neg (by omega)]
    exact ⟨rfl, zfr.rf, h⟩
theorem sp_Model_world (M : zMem) (B : Nat → Nat → Nat) (v w : Int) (hv : zrng v) (hw : zrng w) (h : abR M B) : zSp zd_Model_world 4 [zr 9, zi v, zi w] M (fun r M' => rOK M M' B r (fWorld B v w)) := by
  refine zSp_in 1 [some (zr 9), some (zi v), some (zi w), none] rfl rfl (by decide +kernel) rfl ?_
  refine z_withR (fun hR => ?_)
  have hl40 := lS_le (wK B)
  have hlT : lS (wK B) ≤ lT B := by have := lS_lT B; omega
  refine zaload_4_0 dX9_world_0 ?_
  refine zc_Model_175 rfl dX9_world_1 (by decide) (Nat.le_of_ble_eq_true rfl) (sp_Model_layAll M B h.1.1 h.1.2.2.2.1 h.cache) (fun r1 M1 hq1 => ?_)
  refine z_withR (fun hR => ?_)
  obtain ⟨f12, g12, i12, l12, c12⟩ := hq1
  have hab := h.after f12 g12 i12 l12 c12
  refine ziload_4_1 dX9_world_4 ?_
  refine z_i2l (by first | omega | exact hR.1 _ _ (by decide) | exact zrng_toInt _) dX9_world_5 ?_
  refine z_lconst 0 dX9_world_6 rfl ?_
  refine zaload_4_0 dX9_world_7 ?_
  refine zc_Model_181 rfl dX9_world_8 (by decide) (Nat.le_of_ble_eq_true rfl) (sp_Model_onList M1 B l12.2.1) (fun r8 M8 hq8 => ?_)
  refine z_withR (fun hR => ?_)
  have e8 := hq8.1.symm
  subst e8
  have q8 := hq8.2
  subst q8
  refine z_iconst dX9_world_11 ?_
  refine z_isub dX9_world_12 ?_
  refine z_i2l (by first | omega | exact hR.1 _ _ (by decide) | exact zrng_toInt _) dX9_world_13 ?_
  refine zc_Model_105 rfl dX9_world_14 (by decide) (Nat.le_of_ble_eq_true rfl) (sp_Model_in M1 v 0 ((lS (wK B) : Int) - 1) hv (by decide) (by unfold zrng; omega)) (fun r14 M14 hq14 => ?_)
  refine z_withR (fun hR => ?_)
  have e14 := hq14.1.symm
  subst e14
  have q14 := hq14.2
  have q14 := or_if q14
  refine z_if_ne (tgt := 22) (or_rng q14) dX9_world_17 (by decide) (fun h17 => ?_) (fun h17 => ?_)
  · have y0 := or_yes q14 h17
    have y : inR v (lS (wK B)) := ⟨y0.1, by omega⟩
    obtain ⟨v', rfl⟩ : ∃ v' : Nat, v = v' := ⟨v.toNat, by omega⟩
    have hE := (lE_okA (q := wK B) (j := v') (by show v' < lT B; omega)).1
    obtain ⟨p1, p2, p3, p4⟩ := pe_ok hE
    have eL := l12.2.2 v' (by omega)
    have hs3 := (okn_eSz (lE (wK B) v')).le
    have hpe : pe (lE (wK B) v') = pb (eSz (lE (wK B) v')) + eK (lE (wK B) v') := rfl
    refine zaload_4_0 dX9_world_22 ?_
    refine zg_Model_48 rfl dX9_world_23 ?_
    refine ziload_4_1 dX9_world_26 ?_
    refine z_iald _ rfl (by decide) (by decide) rfl (by omega) dX9_world_27 ?_
    refine z_top eL ?_
    refine zc_Model_120 rfl dX9_world_28 (by decide) (Nat.le_of_ble_eq_true rfl) (sp_Model_sizeAt M1 (pe (lE (wK B) v')) p1) (fun r28 M28 hq28 => ?_)
    refine z_withR (fun hR => ?_)
    have e28 := hq28.1.symm
    subst e28
    have q28 := hq28.2
    rw [p2] at q28
    subst q28
    refine zistore_4_3 dX9_world_31 ?_
    refine ziload_4_2 dX9_world_32 ?_
    refine z_if_ne (tgt := 40) (by first | omega | exact hR.1 _ _ (by decide) | exact zrng_toInt _) dX9_world_33 (by decide) (fun h33 => ?_) (fun h33 => ?_)
    · refine ziload_4_2 dX9_world_40 ?_
      refine z_iconst dX9_world_41 ?_
      refine z_icmp_ne (tgt := 59) (by first | omega | exact hR.1 _ _ (by decide) | exact zrng_toInt _) (by first | omega | exact hR.1 _ _ (by decide) | exact zrng_toInt _) dX9_world_42 (by decide) (fun h42 => ?_) (fun h42 => ?_)
      · refine z_bipush dX9_world_59 (by decide) ?_
        refine z_iret rfl ?_ dX9_world_61
        refine ⟨?_, f12.up (by decide), hab⟩
        unfold fWorld
        rw [if_pos y, Int.toNat_natCast]
        first
          | (rw [if_pos h33]; done)
          | (rw [if_neg h33, if_pos h42, hpe]; omega)
          | (rw [if_neg h33, if_neg h42]; done)
      · refine zaload_4_0 dX9_world_45 ?_
        refine zg_Model_48 rfl dX9_world_46 ?_
        refine ziload_4_1 dX9_world_49 ?_
        refine z_iald _ rfl (by decide) (by decide) rfl (by omega) dX9_world_50 ?_
        refine z_top eL ?_
        refine ziload_4_3 dX9_world_51 ?_
        refine zc_Model_127 rfl dX9_world_52 (by decide) (Nat.le_of_ble_eq_true rfl) (sp_Model_baseOf M1 (eSz (lE (wK B) v')) (okn_eSz _)) (fun r52 M52 hq52 => ?_)
        refine z_withR (fun hR => ?_)
        have e52 := hq52.1.symm
        subst e52
        have q52 := hq52.2
        subst q52
        refine z_isub dX9_world_55 ?_
        refine z_goto (tgt := 61) dX9_world_56 (by decide) ?_
        refine z_iret rfl ?_ dX9_world_61
        refine ⟨?_, f12.up (by decide), hab⟩
        unfold fWorld
        rw [if_pos y, Int.toNat_natCast]
        first
          | (rw [if_pos h33]; done)
          | (rw [if_neg h33, if_pos h42, hpe]; omega)
          | (rw [if_neg h33, if_neg h42]; done)
    · refine ziload_4_3 dX9_world_36 ?_
      refine z_goto (tgt := 61) dX9_world_37 (by decide) ?_
      refine z_iret rfl ?_ dX9_world_61
      refine ⟨?_, f12.up (by decide), hab⟩
      unfold fWorld
      rw [if_pos y, Int.toNat_natCast]
      first
        | (rw [if_pos h33]; done)
        | (rw [if_neg h33, if_pos h42, hpe]; omega)
        | (rw [if_neg h33, if_neg h42]; done)
  · have y0 := or_no q14 h17
    have y : ¬ inR v (lS (wK B)) := fun z => y0 ⟨z.1, by omega⟩
    refine z_iconst dX9_world_20 ?_
    refine z_iret rfl ?_ dX9_world_21
    unfold fWorld
    rw [if_neg y]
    exact ⟨rfl, f12.up (by decide), hab⟩
