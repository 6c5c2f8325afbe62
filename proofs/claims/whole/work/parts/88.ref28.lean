theorem abR.sh {M M' : zMem} {B : Nat → Nat → Nat} (h : abR M B) (hf : zfr [9, 61, 62, 63, 64] M M') (g9 : ∀ i, i ≠ 37 → M' 9 i = M 9 i) : abR M' B := ⟨h.1.fr hf (by decide) (g9 _ (by decide)) (g9 _ (by decide)) (g9 _ (by decide)), h.2.fr hf (by decide) (g9 _ (by decide)) (g9 _ (by decide)) (g9 _ (by decide))⟩
theorem sp_Model_shown (M : zMem) (B : Nat → Nat → Nat) (a b : Int) (ha : zrng a) (hb : zrng b) (h : abR M B) : zSp zd_Model_shown 3 [zr 9, zi a, zi b] M (fun r M' => rOK M M' B r (fShown B a b)) := by
  refine zSp_in 0 [some (zr 9), some (zi a), some (zi b)] rfl rfl (by decide +kernel) rfl ?_
  refine z_withR (fun hR => ?_)
  obtain ⟨t1, t2, t3, t4, t5⟩ := id h.1.1
  have bad : ¬ (inR a (B 0 0) ∧ inR b (B 0 0)) → rOK M M B (-1) (fShown B a b) := by
    intro hn
    unfold fShown
    rw [if_neg hn]
    exact ⟨rfl, zfr.rf, h⟩
  refine zaload_3_0 dX9_shown_0 ?_
  refine ziload_3_1 dX9_shown_1 ?_
  refine zc_Model_109 rfl dX9_shown_2 (by decide) (Nat.le_of_ble_eq_true rfl) (sp_Model_isTerm M a (B 0 0) ha t1 t3) (fun r2 M2 hq2 => ?_)
  refine z_withR (fun hR => ?_)
  have e2 := hq2.1.symm
  subst e2
  have q2 := hq2.2
  have q2 := or_if q2
  refine z_if_eq (tgt := 16) (or_rng q2) dX9_shown_5 (by decide) (fun h5 => ?_) (fun h5 => ?_)
  · have n5 := or_no q2 h5
    refine z_iconst dX9_shown_16 ?_
    refine z_iret rfl ?_ dX9_shown_17
    first
      | exact bad (fun z => n5 z.1)
      | exact bad (fun z => n16 z.2)
  · have n5 := or_yes q2 h5
    refine zaload_3_0 dX9_shown_8 ?_
    refine ziload_3_2 dX9_shown_9 ?_
    refine zc_Model_109 rfl dX9_shown_10 (by decide) (Nat.le_of_ble_eq_true rfl) (sp_Model_isTerm M b (B 0 0) hb t1 t3) (fun r10 M10 hq10 => ?_)
    refine z_withR (fun hR => ?_)
    have e10 := hq10.1.symm
    subst e10
    have q10 := hq10.2
    have q10 := or_if q10
    refine z_if_ne (tgt := 18) (or_rng q10) dX9_shown_13 (by decide) (fun h13 => ?_) (fun h13 => ?_)
    · have n16 := or_yes q10 h13
      obtain ⟨a', rfl⟩ : ∃ a' : Nat, a = a' := ⟨a.toNat, by omega⟩
      obtain ⟨b', rfl⟩ : ∃ b' : Nat, b = b' := ⟨b.toNat, by omega⟩
      refine zaload_3_0 dX9_shown_18 ?_
      refine zc_Model_267 rfl dX9_shown_19 (by decide) (Nat.le_of_ble_eq_true rfl) (sp_Model_layShown M B h) (fun r19 M19 hq19 => ?_)
      refine z_withR (fun hR => ?_)
      obtain ⟨f19, g19, h62, h61, h37⟩ := hq19
      have hab := h61 a' b' (by omega) (by omega)
      refine zaload_3_0 dX9_shown_22 ?_
      refine zg_Model_93 rfl dX9_shown_23 ?_
      refine z_bipush dX9_shown_26 (by decide) ?_
      refine ziload_3_1 dX9_shown_28 ?_
      refine z_imul dX9_shown_29 ?_
      refine ziload_3_2 dX9_shown_30 ?_
      refine z_iadd dX9_shown_31 ?_
      refine z_iald (20 * a' + b') rfl (by decide) (by decide) (by omega) (by omega) dX9_shown_32 ?_
      refine z_top hab ?_
      refine z_iret rfl ?_ dX9_shown_33
      unfold fShown
      rw [if_pos ⟨n5, n16⟩, Int.toNat_natCast, Int.toNat_natCast]
      exact ⟨rfl, f19.up (by decide), h.sh f19 g19⟩
    · have n16 := or_no q10 h13
      refine z_iconst dX9_shown_16 ?_
      refine z_iret rfl ?_ dX9_shown_17
      first
        | exact bad (fun z => n5 z.1)
        | exact bad (fun z => n16 z.2)
theorem sp_Model_first (M : zMem) (B : Nat → Nat → Nat) (t : Int) (ht : zrng t) (h : abR M B) : zSp zd_Model_first 3 [zr 9, zi t] M (fun r M' => rOK M M' B r (fFirst B t)) := by
  refine zSp_in 0 [some (zr 9), some (zi t)] rfl rfl (by decide +kernel) rfl ?_
  refine z_withR (fun hR => ?_)
  obtain ⟨t1, t2, t3, t4, t5⟩ := id h.1.1
  refine zaload_2_0 dX9_first_0 ?_
  refine ziload_2_1 dX9_first_1 ?_
  refine zc_Model_109 rfl dX9_first_2 (by decide) (Nat.le_of_ble_eq_true rfl) (sp_Model_isTerm M t (B 0 0) ht t1 t3) (fun r2 M2 hq2 => ?_)
  refine z_withR (fun hR => ?_)
  have e2 := hq2.1.symm
  subst e2
  have q2 := hq2.2
  have q2 := or_if q2
  refine z_if_ne (tgt := 10) (or_rng q2) dX9_first_5 (by decide) (fun h5 => ?_) (fun h5 => ?_)
  · have n5 := or_yes q2 h5
    obtain ⟨t', rfl⟩ : ∃ t' : Nat, t = t' := ⟨t.toNat, by omega⟩
    refine zaload_2_0 dX9_first_10 ?_
    refine zc_Model_267 rfl dX9_first_11 (by decide) (Nat.le_of_ble_eq_true rfl) (sp_Model_layShown M B h) (fun r11 M11 hq11 => ?_)
    refine z_withR (fun hR => ?_)
    obtain ⟨f19, g19, h62, h61, h37⟩ := hq11
    refine zaload_2_0 dX9_first_14 ?_
    refine zg_Model_96 rfl dX9_first_15 ?_
    refine ziload_2_1 dX9_first_18 ?_
    refine z_iald _ rfl (by decide) (by decide) rfl (by omega) dX9_first_19 ?_
    refine z_top (h62 t' (by omega)) ?_
    refine z_iret rfl ?_ dX9_first_20
    unfold fFirst
    rw [if_pos n5, Int.toNat_natCast]
    exact ⟨rfl, f19.up (by decide), h.sh f19 g19⟩
  · have n5 := or_no q2 h5
    refine z_iconst dX9_first_8 ?_
    refine z_iret rfl ?_ dX9_first_9
    unfold fFirst
    rw [if_neg n5]
    exact ⟨rfl, zfr.rf, h⟩
theorem sp_Model_groups (M : zMem) (B : Nat → Nat → Nat) (h : abR M B) : zSp zd_Model_groups 3 [zr 9] M (fun r M' => rOK M M' B r (ngr (bG B) (B 0 0))) := by
  refine zSp_in 2 [some (zr 9), none, none] rfl rfl (by decide +kernel) rfl ?_
  refine z_withR (fun hR => ?_)
  obtain ⟨t1, t2, t3, t4, t5⟩ := id h.1.1
  obtain ⟨post, hpost⟩ : ∃ post : Int → zMem → Prop, post = (fun (r : Int) M' => rOK M M' B r (ngr (bG B) (B 0 0))) := ⟨_, rfl⟩
  rw [← hpost]
  obtain ⟨F, hF⟩ : ∃ F : Nat → Bool, F = (fun t => bG B t == t) := ⟨_, rfl⟩
  have lp : ∀ (M1 : zMem), abR M1 B → (∀ r : Int, r = (fb_ct F (B 0 0) : Nat) → post r M1) → (∀ t, t < B 0 0 → M1 62 t = bG B t) → ∀ (c t : Nat), t + c = B 0 0 → zV zd_Model_groups 3 8 [some (zr 9), some (zi (fb_ct F t : Nat)), some (zi t)] [] M1 post := by
    intro M1 a1 done hg c
    have e1 := a1.1.1.1
    induction c with
    | zero =>
      intro t ht
      refine z_withR (fun hR => ?_)
      refine ziload_3_2 dX9_groups_8 ?_
      refine zaload_3_0 dX9_groups_9 ?_
      refine zg_Model_7 rfl dX9_groups_10 ?_
      refine z_top e1 ?_
      refine z_icmp_ge (tgt := 40) (by first | omega | exact hR.1 _ _ (by decide) | exact zrng_toInt _) (by first | omega | exact hR.1 _ _ (by decide) | exact zrng_toInt _) dX9_groups_13 (by decide) (fun h13 => ?_) (fun h13 => ?_)
      · refine ziload_3_1 dX9_groups_40 ?_
        refine z_iret rfl ?_ dX9_groups_41
        exact done _ (by rw [show t = B 0 0 by omega])
      · omega
    | succ c ih =>
      intro t ht
      have hle := fb_ct_le F t
      have eg := hg t (by omega)
      have hgl : bG B t ≤ t := gR_lt t3 (by omega)
      have eF : F t = (bG B t == t) := by rw [hF]
      refine z_withR (fun hR => ?_)
      refine ziload_3_2 dX9_groups_8 ?_
      refine zaload_3_0 dX9_groups_9 ?_
      refine zg_Model_7 rfl dX9_groups_10 ?_
      refine z_top e1 ?_
      refine z_icmp_ge (tgt := 40) (by first | omega | exact hR.1 _ _ (by decide) | exact zrng_toInt _) (by first | omega | exact hR.1 _ _ (by decide) | exact zrng_toInt _) dX9_groups_13 (by decide) (fun h13 => ?_) (fun h13 => ?_)
      · omega
      · refine ziload_3_1 dX9_groups_16 ?_
        refine zaload_3_0 dX9_groups_17 ?_
        refine zg_Model_96 rfl dX9_groups_18 ?_
        refine ziload_3_2 dX9_groups_21 ?_
        refine z_iald _ rfl (by decide) (by decide) rfl (by omega) dX9_groups_22 ?_
        refine z_top eg ?_
        refine ziload_3_2 dX9_groups_23 ?_
        refine z_icmp_ne (tgt := 31) (by first | omega | exact hR.1 _ _ (by decide) | exact zrng_toInt _) (by first | omega | exact hR.1 _ _ (by decide) | exact zrng_toInt _) dX9_groups_24 (by decide) (fun h24 => ?_) (fun h24 => ?_)
        · have e : fb_ct F (t + 1) = fb_ct F t + 0 := by
            rw [fb_ct_succ, eF, show (bG B t == t) = false from beq_eq_false_iff_ne.mpr (by omega)]
            rfl
          refine z_iconst dX9_groups_31 ?_
          refine z_iadd dX9_groups_32 ?_
          refine z_top (y := ((fb_ct F (t + 1) : Nat) : Int)) (by rw [e]; omega) ?_
          refine zistore_3_1 dX9_groups_33 ?_
          refine ziinc_3_2 dX9_groups_34 ?_
          refine z_goto (tgt := 8) dX9_groups_37 (by decide) ?_
          exact ih (t + 1) (by omega)
        · have e : fb_ct F (t + 1) = fb_ct F t + 1 := by
            rw [fb_ct_succ, eF, show (bG B t == t) = true from beq_iff_eq.mpr (by omega)]
            rfl
          refine z_iconst dX9_groups_27 ?_
          refine z_goto (tgt := 32) dX9_groups_28 (by decide) ?_
          refine z_iadd dX9_groups_32 ?_
          refine z_top (y := ((fb_ct F (t + 1) : Nat) : Int)) (by rw [e]; omega) ?_
          refine zistore_3_1 dX9_groups_33 ?_
          refine ziinc_3_2 dX9_groups_34 ?_
          refine z_goto (tgt := 8) dX9_groups_37 (by decide) ?_
          exact ih (t + 1) (by omega)
  refine zaload_3_0 dX9_groups_0 ?_
  refine zc_Model_267 rfl dX9_groups_1 (by decide) (Nat.le_of_ble_eq_true rfl) (sp_Model_layShown M B h) (fun r1 M1 hq1 => ?_)
  refine z_withR (fun hR => ?_)
  obtain ⟨f19, g19, h62, h61, h37⟩ := hq1
  refine z_iconst dX9_groups_4 ?_
  refine zistore_3_1 dX9_groups_5 ?_
  refine z_iconst dX9_groups_6 ?_
  refine zistore_3_2 dX9_groups_7 ?_
  refine lp M1 (h.sh f19 g19) (fun r hr => ?_) h62 (B 0 0) 0 (by omega)
  rw [hpost]
  refine ⟨?_, f19.up (by decide), h.sh f19 g19⟩
  rw [hr, hF]
  rfl
theorem sp_Model_count (M : zMem) (B : Nat → Nat → Nat) (w : Int) (hw : zrng w) (h : abR M B) : zSp zd_Model_count 3 [zr 9, zi w] M (fun r M' => rOK M M' B r (fCount B w)) := by
  refine zSp_in 2 [some (zr 9), some (zi w), none, none] rfl rfl (by decide +kernel) rfl ?_
  refine z_withR (fun hR => ?_)
  obtain ⟨n1, n12, nw, n4⟩ := id h.1.2.2.2.2.1
  have e0 : fCount B w = if w = 0 then (B 0 0 : Int) else if w = 1 then (B 3 0 : Int) else if w = 2 then (B 6 0 : Int) else if w = 3 then (fb_ct (bAw B) (B 6 0) : Int) else if w = 4 then (bF B : Int) else -2 := rfl
  obtain ⟨post, hpost⟩ : ∃ post : Int → zMem → Prop, post = (fun (r : Int) M' => rOK M M' B r (fCount B w)) := ⟨_, rfl⟩
  rw [← hpost]
  have lp : ∀ (c k : Nat), k + c = B 6 0 → zV zd_Model_count 3 4 [some (zr 9), some (zi w), some (zi (fb_ct (bAw B) k : Nat)), some (zi k)] [] M post := by
    intro c
    induction c with
    | zero =>
      intro k hk
      rw [show k = B 6 0 by omega]
      refine z_withR (fun hR => ?_)
      refine ziload_4_3 dX9_count_4 ?_
      refine zaload_4_0 dX9_count_5 ?_
      refine zg_Model_187 rfl dX9_count_6 ?_
      refine z_top n1 ?_
      refine z_icmp_ge (tgt := 35) (by first | omega | exact hR.1 _ _ (by decide) | exact zrng_toInt _) (by first | omega | exact hR.1 _ _ (by decide) | exact zrng_toInt _) dX9_count_9 (by decide) (fun h9 => ?_) (fun h9 => ?_)
      · refine zaload_4_0 dX9_count_35 ?_
        refine zc_Model_267 rfl dX9_count_36 (by decide) (Nat.le_of_ble_eq_true rfl) (sp_Model_layShown M B h) (fun r36 M36 hq36 => ?_)
        refine z_withR (fun hR => ?_)
        obtain ⟨f19, g19, h62, h61, h37⟩ := hq36
        have ha := h.sh f19 g19
        have ff : zfr zRL M M36 := f19.up (by decide)
        refine ziload_4_1 dX9_count_39 ?_
        rcases (show w = 0 ∨ w = 1 ∨ w = 2 ∨ w = 3 ∨ w = 4 ∨ (w < 0 ∨ 4 < w) from by omega) with h40 | h40 | h40 | h40 | h40 | h40
        · refine z_swIn (tgt := 76) 0 (by first | omega | exact hR.1 _ _ (by decide) | exact zrng_toInt _) (by omega) dX9_count_40 (by decide) rfl (by decide) ?_
          refine zaload_4_0 dX9_count_76 ?_
          refine zg_Model_7 rfl dX9_count_77 ?_
          refine z_iret rfl ?_ dX9_count_80
          rw [hpost, e0, if_pos h40]
          exact ⟨ha.1.1.1, ff, ha⟩
        · refine z_swIn (tgt := 81) 1 (by first | omega | exact hR.1 _ _ (by decide) | exact zrng_toInt _) (by omega) dX9_count_40 (by decide) rfl (by decide) ?_
          refine zaload_4_0 dX9_count_81 ?_
          refine zg_Model_113 rfl dX9_count_82 ?_
          refine z_iret rfl ?_ dX9_count_85
          rw [hpost, e0, if_neg (by omega), if_pos h40]
          exact ⟨ha.1.2.2.2.1.1, ff, ha⟩
        · refine z_swIn (tgt := 86) 2 (by first | omega | exact hR.1 _ _ (by decide) | exact zrng_toInt _) (by omega) dX9_count_40 (by decide) rfl (by decide) ?_
          refine zaload_4_0 dX9_count_86 ?_
          refine zg_Model_187 rfl dX9_count_87 ?_
          refine z_iret rfl ?_ dX9_count_90
          rw [hpost, e0, if_neg (by omega), if_neg (by omega), if_pos h40]
          exact ⟨ha.1.2.2.2.2.1.1, ff, ha⟩
        · refine z_swIn (tgt := 91) 3 (by first | omega | exact hR.1 _ _ (by decide) | exact zrng_toInt _) (by omega) dX9_count_40 (by decide) rfl (by decide) ?_
          refine ziload_4_2 dX9_count_91 ?_
          refine z_iret rfl ?_ dX9_count_92
          rw [hpost, e0, if_neg (by omega), if_neg (by omega), if_neg (by omega), if_pos h40]
          exact ⟨rfl, ff, ha⟩
        · refine z_swIn (tgt := 93) 4 (by first | omega | exact hR.1 _ _ (by decide) | exact zrng_toInt _) (by omega) dX9_count_40 (by decide) rfl (by decide) ?_
          refine zaload_4_0 dX9_count_93 ?_
          refine zg_Model_258 rfl dX9_count_94 ?_
          refine z_iret rfl ?_ dX9_count_97
          rw [hpost, e0, if_neg (by omega), if_neg (by omega), if_neg (by omega), if_neg (by omega), if_pos h40]
          exact ⟨h37, ff, ha⟩
        · refine z_swOut (tgt := 98) (by first | omega | exact hR.1 _ _ (by decide) | exact zrng_toInt _) dX9_count_40 (by omega) (by decide) ?_
          refine z_bipush dX9_count_98 (by decide) ?_
          refine z_iret rfl ?_ dX9_count_100
          rw [hpost, e0, if_neg (by omega), if_neg (by omega), if_neg (by omega), if_neg (by omega), if_neg (by omega)]
          exact ⟨rfl, ff, ha⟩
      · omega
    | succ c ih =>
      intro k hk
      have hle := fb_ct_le (bAw B) k
      have hA := (n4 k (by omega)).2.2.2
      refine z_withR (fun hR => ?_)
      refine ziload_4_3 dX9_count_4 ?_
      refine zaload_4_0 dX9_count_5 ?_
      refine zg_Model_187 rfl dX9_count_6 ?_
      refine z_top n1 ?_
      refine z_icmp_ge (tgt := 35) (by first | omega | exact hR.1 _ _ (by decide) | exact zrng_toInt _) (by first | omega | exact hR.1 _ _ (by decide) | exact zrng_toInt _) dX9_count_9 (by decide) (fun h9 => ?_) (fun h9 => ?_)
      · omega
      · refine ziload_4_2 dX9_count_12 ?_
        refine zaload_4_0 dX9_count_13 ?_
        refine zg_Model_63 rfl dX9_count_14 ?_
        refine ziload_4_3 dX9_count_17 ?_
        refine z_zald _ rfl (by decide) (by decide) rfl (by omega) dX9_count_18 ?_
        refine z_top hA ?_
        refine z_if_eq (tgt := 26) (by split <;> decide) dX9_count_19 (by decide) (fun h19 => ?_) (fun h19 => ?_)
        · have hz : bAw B k = true := by
            cases hz : bAw B k
            · rw [hz] at h19; exact absurd h19 (by decide)
            · rfl
          have e : fb_ct (bAw B) (k + 1) = fb_ct (bAw B) k + 1 := by rw [fb_ct_succ, hz]; rfl
          refine z_iconst dX9_count_26 ?_
          refine z_iadd dX9_count_27 ?_
          refine z_top (y := ((fb_ct (bAw B) (k + 1) : Nat) : Int)) (by rw [e]; omega) ?_
          refine zistore_4_2 dX9_count_28 ?_
          refine ziinc_4_3 dX9_count_29 ?_
          refine z_goto (tgt := 4) dX9_count_32 (by decide) ?_
          exact ih (k + 1) (by omega)
        · have hz : bAw B k = false := by
            cases hz : bAw B k
            · rfl
            · rw [hz] at h19; exact absurd rfl h19
          have e : fb_ct (bAw B) (k + 1) = fb_ct (bAw B) k + 0 := by rw [fb_ct_succ, hz]; rfl
          refine z_iconst dX9_count_22 ?_
          refine z_goto (tgt := 27) dX9_count_23 (by decide) ?_
          refine z_iadd dX9_count_27 ?_
          refine z_top (y := ((fb_ct (bAw B) (k + 1) : Nat) : Int)) (by rw [e]; omega) ?_
          refine zistore_4_2 dX9_count_28 ?_
          refine ziinc_4_3 dX9_count_29 ?_
          refine z_goto (tgt := 4) dX9_count_32 (by decide) ?_
          exact ih (k + 1) (by omega)
  refine z_iconst dX9_count_0 ?_
  refine zistore_4_2 dX9_count_1 ?_
  refine z_iconst dX9_count_2 ?_
  refine zistore_4_3 dX9_count_3 ?_
  exact lp (B 6 0) 0 (by omega)
