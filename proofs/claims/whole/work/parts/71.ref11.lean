theorem sp_Model_set (M : zMem) (i : Nat) (w a b : Int) (hi : i < 13) (hw : zrng w) (ha : zrng a) (hb : zrng b) : zSp zd_Model_set 0 [zr 9, zi i, zi w, zi a, zi b] M (fun _ M' => M' = zmu (zmu (zmu M 48 i w) 49 i a) 50 i b) := by
  refine zSp_in 0 [some (zr 9), some (zi i), some (zi w), some (zi a), some (zi b)] rfl rfl (by decide +kernel) rfl ?_
  refine z_withR (fun hR => ?_)
  refine zaload_5_0 dX9_set_0 ?_
  refine zg_Model_54 rfl dX9_set_1 ?_
  refine ziload_5_1 dX9_set_4 ?_
  refine ziload_5_2 dX9_set_5 ?_
  refine z_iast _ (by decide) rfl (by decide) (by decide) rfl (by omega) (by first | omega | exact hR.1 _ _ (by decide) | exact zrng_toInt _) dX9_set_6 ?_
  refine z_withR (fun hR => ?_)
  refine zaload_5_0 dX9_set_7 ?_
  refine zg_Model_57 rfl dX9_set_8 ?_
  refine ziload_5_1 dX9_set_11 ?_
  refine ziload_5_3 dX9_set_12 ?_
  refine z_iast _ (by decide) rfl (by decide) (by decide) rfl (by omega) (by first | omega | exact hR.1 _ _ (by decide) | exact zrng_toInt _) dX9_set_13 ?_
  refine z_withR (fun hR => ?_)
  refine zaload_5_0 dX9_set_14 ?_
  refine zg_Model_60 rfl dX9_set_15 ?_
  refine ziload_5_1 dX9_set_18 ?_
  refine ziload_5_4 dX9_set_19 ?_
  refine z_iast _ (by decide) rfl (by decide) (by decide) rfl (by omega) (by first | omega | exact hR.1 _ _ (by decide) | exact zrng_toInt _) dX9_set_21 ?_
  refine z_withR (fun hR => ?_)
  refine z_vret rfl ?_ dX9_set_22
  rfl
theorem abR.make {M : zMem} {B : Nat → Nat → Nat} {w a b : Nat} {bb : Int} (h : abR M B) (hN : B 6 0 < 12) (hwf : wfN (B 0 0) (B 6 0 + 1) (fup (B 7) (B 6 0) w) (fup (B 8) (B 6 0) a) (fup (B 9) (B 6 0) b)) (hbb : w = 0 ∨ w = 2 → bb = b) : abR (zmu (zmu (zmu (zmu (zmu M 48 (B 6 0) w) 49 (B 6 0) a) 50 (B 6 0) bb) 51 (B 6 0) 0) 9 18 ((B 6 0 : Int) + 1)) (bMake B w a b) := by
  obtain ⟨⟨h1, h2, h3, h4, h5, h6, h7⟩, hc⟩ := h
  have b6 : bMake B w a b 6 0 = B 6 0 + 1 := rfl
  have b7 : bMake B w a b 7 = fup (B 7) (B 6 0) w := rfl
  have b8 : bMake B w a b 8 = fup (B 8) (B 6 0) a := rfl
  have b9 : bMake B w a b 9 = fup (B 9) (B 6 0) b := rfl
  have b10 : bMake B w a b 10 = fup (B 10) (B 6 0) 1 := rfl
  have b0 : bMake B w a b 0 = B 0 := rfl
  have b1 : bMake B w a b 1 = B 1 := rfl
  have b2 : bMake B w a b 2 = B 2 := rfl
  have hf : zfr [9, 48, 49, 50, 51] M (zmu (zmu (zmu (zmu (zmu M 48 (B 6 0) w) 49 (B 6 0) a) 50 (B 6 0) bb) 51 (B 6 0) 0) 9 18 ((B 6 0 : Int) + 1)) := ((((zfr.rf.mu (by decide)).mu (by decide)).mu (by decide)).mu (by decide)).mu (by decide)
  have g9 : ∀ i, i ≠ 18 → (zmu (zmu (zmu (zmu (zmu M 48 (B 6 0) w) 49 (B 6 0) a) 50 (B 6 0) bb) 51 (B 6 0) 0) 9 18 ((B 6 0 : Int) + 1)) 9 i = M 9 i := fun i hi => by
    rw [zmu_ne _ _ _ _ hi, zmu_other _ _ _ _ (by decide), zmu_other _ _ _ _ (by decide), zmu_other _ _ _ _ (by decide), zmu_other _ _ _ _ (by decide)]
  have g48 : ∀ i, (zmu (zmu (zmu (zmu (zmu M 48 (B 6 0) w) 49 (B 6 0) a) 50 (B 6 0) bb) 51 (B 6 0) 0) 9 18 ((B 6 0 : Int) + 1)) 48 i = zmu M 48 (B 6 0) w 48 i := fun i => by
    rw [zmu_other _ _ _ _ (by decide), zmu_other _ _ _ _ (by decide), zmu_other _ _ _ _ (by decide), zmu_other _ _ _ _ (by decide)]
  have g49 : ∀ i, (zmu (zmu (zmu (zmu (zmu M 48 (B 6 0) w) 49 (B 6 0) a) 50 (B 6 0) bb) 51 (B 6 0) 0) 9 18 ((B 6 0 : Int) + 1)) 49 i = if i = B 6 0 then (a : Int) else M 49 i := fun i => by
    rw [zmu_other _ _ _ _ (by decide), zmu_other _ _ _ _ (by decide), zmu_other _ _ _ _ (by decide)]
    by_cases e : i = B 6 0
    · rw [e, zmu_same, if_pos rfl]
    · rw [zmu_ne _ _ _ _ e, zmu_other _ _ _ _ (by decide), if_neg e]
  have g50 : ∀ i, (zmu (zmu (zmu (zmu (zmu M 48 (B 6 0) w) 49 (B 6 0) a) 50 (B 6 0) bb) 51 (B 6 0) 0) 9 18 ((B 6 0 : Int) + 1)) 50 i = if i = B 6 0 then bb else M 50 i := fun i => by
    rw [zmu_other _ _ _ _ (by decide), zmu_other _ _ _ _ (by decide)]
    by_cases e : i = B 6 0
    · rw [e, zmu_same, if_pos rfl]
    · rw [zmu_ne _ _ _ _ e, zmu_other _ _ _ _ (by decide), zmu_other _ _ _ _ (by decide), if_neg e]
  have g51 : ∀ i, (zmu (zmu (zmu (zmu (zmu M 48 (B 6 0) w) 49 (B 6 0) a) 50 (B 6 0) bb) 51 (B 6 0) 0) 9 18 ((B 6 0 : Int) + 1)) 51 i = if i = B 6 0 then 0 else M 51 i := fun i => by
    rw [zmu_other _ _ _ _ (by decide)]
    by_cases e : i = B 6 0
    · rw [e, zmu_same, if_pos rfl]
    · rw [zmu_ne _ _ _ _ e, zmu_other _ _ _ _ (by decide), zmu_other _ _ _ _ (by decide), zmu_other _ _ _ _ (by decide), if_neg e]
  refine ⟨⟨h1.fr hf (g9 0 (by decide)) (by decide) (by decide), h2, ?_, h4.fr hf (g9 4 (by decide)) (by decide) (by decide), ?_, ?_, ?_⟩, ?_⟩
  · rw [hf 37 (by decide)]; exact h3
  · unfold ntR bAw
    rw [b6, b7, b8, b9, b10, b0]
    refine ⟨by rw [zmu_same]; omega, by omega, hwf, fun i hi => ?_⟩
    rw [g48, g49, g50, g51]
    by_cases e : i = B 6 0
    · rw [e, zmu_same, fup_s, fup_s, fup_s, fup_s, if_pos rfl, if_pos rfl, if_pos rfl]
      exact ⟨rfl, rfl, hbb, by simp⟩
    · rw [zmu_ne _ _ _ _ e, fup_n e, fup_n e, fup_n e, fup_n e, if_neg e, if_neg e, if_neg e]
      exact h5.2.2.2 i (by omega)
  · rw [hf 54 (by decide)]; exact h6
  · unfold slR
    rw [hf 56 (by decide), hf 57 (by decide), hf 58 (by decide)]; exact h7
  · refine (hc.fr hf (by decide) (g9 7 (by decide)) (g9 15 (by decide)) (g9 25 (by decide))).re rfl (by rw [b6]; omega) (fun n k l hl => rfl) (fun e i hi => ?_)
    unfold bS sE
    rw [b1, b2, b7, b8, b9]
    exact so_congr h1.2.2.2.1 h5.2.2.1 (fun t _ _ => ⟨rfl, rfl⟩) (fun i hi => ⟨fup_n (by omega), fup_n (by omega), fup_n (by omega)⟩) i hi
theorem sp_Model_make (M : zMem) (B : Nat → Nat → Nat) (w a b : Int) (hw : zrng w) (ha : zrng a) (hb : zrng b) (h : abR M B) : zSp zd_Model_make 2 [zr 9, zi w, zi a, zi b] M (fun r M' => rOK M M' (gMake B w a b) r (fMake B w a b)) := by
  refine zSp_in 1 [some (zr 9), some (zi w), some (zi a), some (zi b), none] rfl rfl (by decide +kernel) rfl ?_
  refine z_withR (fun hR => ?_)
  have t1 := h.1.1.1
  have t20 := h.1.1.2.2.1
  obtain ⟨n1, n12, nw, n4⟩ := id h.1.2.2.2.2.1
  obtain ⟨post, hpost⟩ : ∃ post : Int → zMem → Prop, post = (fun (r : Int) M' => rOK M M' (gMake B w a b) r (fMake B w a b)) := ⟨_, rfl⟩
  rw [← hpost]
  have bad : ¬ inR w 7 → post (-2) M := by
    intro h7
    rw [hpost]
    unfold fMake gMake
    rw [if_neg h7, if_neg (fun z => h7 z.1)]
    exact ⟨rfl, zfr.rf, h⟩
  have k69 : ∀ (x : Int), inR w 7 → ((x = 1 ∧ mkO B w a b) ∨ (x = 0 ∧ ¬ mkO B w a b)) → zV zd_Model_make 2 69 [some (zr 9), some (zi w), some (zi a), some (zi b), none] [zi x] M post := by
    intro x h7 hx
    refine z_withR (fun hR => ?_)
    refine zistore_5_4 dX9_make_69 ?_
    refine ziload_5_4 dX9_make_71 ?_
    refine z_if_ne (tgt := 78) (or_rng hx) dX9_make_73 (by decide) (fun h73 => ?_) (fun h73 => ?_)
    · have hok := or_yes hx h73
      refine zaload_5_0 dX9_make_78 ?_
      refine zg_Model_187 rfl dX9_make_79 ?_
      refine z_top n1 ?_
      refine z_bipush dX9_make_82 (by decide) ?_
      refine z_icmp_ne (tgt := 90) (by first | omega | exact hR.1 _ _ (by decide) | exact zrng_toInt _) (by first | omega | exact hR.1 _ _ (by decide) | exact zrng_toInt _) dX9_make_84 (by decide) (fun h84 => ?_) (fun h84 => ?_)
      · refine zaload_5_0 dX9_make_90 ?_
        refine zaload_5_0 dX9_make_91 ?_
        refine zg_Model_187 rfl dX9_make_92 ?_
        refine z_top n1 ?_
        refine ziload_5_1 dX9_make_95 ?_
        refine ziload_5_2 dX9_make_96 ?_
        refine ziload_5_3 dX9_make_97 ?_
        refine zc_Model_195 rfl dX9_make_98 (by decide) (Nat.le_of_ble_eq_true rfl) (sp_Model_set M (B 6 0) w a b (by omega) hw ha hb) (fun r98 M98 hq98 => ?_)
        refine z_withR (fun hR => ?_)
        subst hq98
        refine zaload_5_0 dX9_make_101 ?_
        refine zg_Model_63 rfl dX9_make_102 ?_
        refine zaload_5_0 dX9_make_105 ?_
        refine zg_Model_187 rfl dX9_make_106 ?_
        refine z_top n1 ?_
        refine z_iconst dX9_make_109 ?_
        refine z_zast (B 6 0) (by decide) rfl (by decide) (by decide) (by omega) (by omega) (by first | omega | exact hR.1 _ _ (by decide) | exact zrng_toInt _) dX9_make_110 ?_
        refine z_withR (fun hR => ?_)
        refine zaload_5_0 dX9_make_111 ?_
        refine z_dup (fun _ => rfl) dX9_make_112 ?_
        refine zg_Model_187 rfl dX9_make_113 ?_
        refine z_top n1 ?_
        refine z_iconst dX9_make_116 ?_
        refine z_iadd dX9_make_117 ?_
        refine zp_Model_187 rfl (by first | omega | exact hR.1 _ _ (by decide) | exact zrng_toInt _) dX9_make_118 ?_
        refine z_withR (fun hR => ?_)
        have n1 := zmu_same (zmu (zmu (zmu (zmu M 48 (B 6 0) w) 49 (B 6 0) a) 50 (B 6 0) b) 51 (B 6 0) 0) 9 18 ((B 6 0 : Int) + 1)
        refine zaload_5_0 dX9_make_121 ?_
        refine zg_Model_187 rfl dX9_make_122 ?_
        refine z_top n1 ?_
        refine z_iconst dX9_make_125 ?_
        refine z_isub dX9_make_126 ?_
        refine z_iret rfl ?_ dX9_make_127
        rw [hpost]
        have hN : B 6 0 < 12 := by omega
        unfold fMake gMake
        rw [if_pos h7, if_pos hok, if_neg (show ¬ B 6 0 = 12 by omega), if_pos ⟨h7, hok, by omega⟩]
        refine ⟨by omega, ((((zfr.rf.mu (by decide)).mu (by decide)).mu (by decide)).mu (by decide)).mu (by decide), ?_⟩
        obtain ⟨w', rfl⟩ : ∃ w' : Nat, w = w' := ⟨w.toNat, by omega⟩
        obtain ⟨a', rfl⟩ : ∃ a' : Nat, a = a' := ⟨a.toNat, by rcases hok with z | z <;> omega⟩
        rw [Int.toNat_natCast, Int.toNat_natCast]
        refine h.make hN (nw.add ⟨by omega, fun z => ?_, fun z => ?_⟩) (fun z => ?_)
        · rw [if_pos (Or.inl (by omega))]
          rcases hok with q | q <;> omega
        · rcases hok with q | q
          · omega
          · refine ⟨by omega, ?_⟩
            by_cases e : w' = 2
            · rw [if_pos (Or.inr (by omega))]
              have := q.2.2 (by omega)
              omega
            · rw [if_neg (by omega)]
              omega
        · rw [if_pos (by omega)]
          rcases hok with q | q
          · omega
          · have := q.2.2 (by omega)
            omega
      · refine z_bipush dX9_make_87 (by decide) ?_
        refine z_iret rfl ?_ dX9_make_89
        rw [hpost]
        unfold fMake gMake
        rw [if_pos h7, if_pos hok, if_pos (show B 6 0 = 12 by omega), if_neg (fun z => z.2.2 (by omega))]
        exact ⟨rfl, zfr.rf, h⟩
    · have hok := or_no hx h73
      refine z_iconst dX9_make_76 ?_
      refine z_iret rfl ?_ dX9_make_77
      rw [hpost]
      unfold fMake gMake
      rw [if_pos h7, if_neg hok, if_neg (fun z => hok z.2.1)]
      exact ⟨rfl, zfr.rf, h⟩
  refine ziload_5_1 dX9_make_0 ?_
  refine z_i2l (by first | omega | exact hR.1 _ _ (by decide) | exact zrng_toInt _) dX9_make_1 ?_
  refine z_lconst 0 dX9_make_2 rfl ?_
  refine zk_Model_190 rfl dX9_make_3 ?_
  refine zc_Model_105 rfl dX9_make_6 (by decide) (Nat.le_of_ble_eq_true rfl) (sp_Model_in M w 0 6 hw (by decide) (by decide)) (fun r6 M6 hq6 => ?_)
  refine z_withR (fun hR => ?_)
  have e6 := hq6.1.symm
  subst e6
  have q6 := hq6.2
  have q6 := or_if q6
  refine z_if_ne (tgt := 15) (or_rng q6) dX9_make_9 (by decide) (fun h9 => ?_) (fun h9 => ?_)
  · have y := or_yes q6 h9
    have h7 : inR w 7 := ⟨by omega, by omega⟩
    refine ziload_5_1 dX9_make_15 ?_
    refine z_if_ne (tgt := 43) (by first | omega | exact hR.1 _ _ (by decide) | exact zrng_toInt _) dX9_make_16 (by decide) (fun h16 => ?_) (fun h16 => ?_)
    · refine zaload_5_0 dX9_make_43 ?_
      refine ziload_5_2 dX9_make_44 ?_
      refine zc_Model_192 rfl dX9_make_45 (by decide) (Nat.le_of_ble_eq_true rfl) (sp_Model_isNotion M a (B 6 0) ha n1 (by omega)) (fun r45 M45 hq45 => ?_)
      refine z_withR (fun hR => ?_)
      have e45 := hq45.1.symm
      subst e45
      have q45 := hq45.2
      have q45 := or_if q45
      refine z_if_eq (tgt := 68) (or_rng q45) dX9_make_48 (by decide) (fun h48 => ?_) (fun h48 => ?_)
      · have ya := or_no q45 h48
        have hno : ¬ mkO B w a b := by
          rintro (z | z)
          · exact h16 z.1
          · exact ya z.2.1
        refine z_iconst dX9_make_68 ?_
        first
          | exact k69 1 h7 (Or.inl ⟨rfl, hok⟩)
          | exact k69 0 h7 (Or.inr ⟨rfl, hno⟩)
      · have ya := or_yes q45 h48
        refine ziload_5_1 dX9_make_51 ?_
        refine z_iconst dX9_make_52 ?_
        refine z_icmp_ne (tgt := 64) (by first | omega | exact hR.1 _ _ (by decide) | exact zrng_toInt _) (by first | omega | exact hR.1 _ _ (by decide) | exact zrng_toInt _) dX9_make_53 (by decide) (fun h53 => ?_) (fun h53 => ?_)
        · have hok : mkO B w a b := Or.inr ⟨h16, ya, fun z => absurd z h53⟩
          refine z_iconst dX9_make_64 ?_
          refine z_goto (tgt := 69) dX9_make_65 (by decide) ?_
          first
            | exact k69 1 h7 (Or.inl ⟨rfl, hok⟩)
            | exact k69 0 h7 (Or.inr ⟨rfl, hno⟩)
        · refine zaload_5_0 dX9_make_56 ?_
          refine ziload_5_3 dX9_make_57 ?_
          refine zc_Model_192 rfl dX9_make_58 (by decide) (Nat.le_of_ble_eq_true rfl) (sp_Model_isNotion M b (B 6 0) hb n1 (by omega)) (fun r58 M58 hq58 => ?_)
          refine z_withR (fun hR => ?_)
          have e58 := hq58.1.symm
          subst e58
          have q58 := hq58.2
          have q58 := or_if q58
          refine z_if_eq (tgt := 68) (or_rng q58) dX9_make_61 (by decide) (fun h61 => ?_) (fun h61 => ?_)
          · have yb := or_no q58 h61
            have hno : ¬ mkO B w a b := by
              rintro (z | z)
              · exact h16 z.1
              · exact yb (z.2.2 h53)
            refine z_iconst dX9_make_68 ?_
            first
              | exact k69 1 h7 (Or.inl ⟨rfl, hok⟩)
              | exact k69 0 h7 (Or.inr ⟨rfl, hno⟩)
          · have yb := or_yes q58 h61
            have hok : mkO B w a b := Or.inr ⟨h16, ya, fun _ => yb⟩
            refine z_iconst dX9_make_64 ?_
            refine z_goto (tgt := 69) dX9_make_65 (by decide) ?_
            first
              | exact k69 1 h7 (Or.inl ⟨rfl, hok⟩)
              | exact k69 0 h7 (Or.inr ⟨rfl, hno⟩)
    · refine zaload_5_0 dX9_make_19 ?_
      refine ziload_5_2 dX9_make_20 ?_
      refine zc_Model_109 rfl dX9_make_21 (by decide) (Nat.le_of_ble_eq_true rfl) (sp_Model_isTerm M a (B 0 0) ha t1 t20) (fun r21 M21 hq21 => ?_)
      refine z_withR (fun hR => ?_)
      have e21 := hq21.1.symm
      subst e21
      have q21 := hq21.2
      have q21 := or_if q21
      refine z_if_eq (tgt := 39) (or_rng q21) dX9_make_24 (by decide) (fun h24 => ?_) (fun h24 => ?_)
      · have ya := or_no q21 h24
        have hno : ¬ mkO B w a b := by
          rintro (z | z)
          · exact ya z.2.1
          · exact z.1 h16
        refine z_iconst dX9_make_39 ?_
        refine z_goto (tgt := 69) dX9_make_40 (by decide) ?_
        first
          | exact k69 1 h7 (Or.inl ⟨rfl, hok⟩)
          | exact k69 0 h7 (Or.inr ⟨rfl, hno⟩)
      · have ya := or_yes q21 h24
        refine zaload_5_0 dX9_make_27 ?_
        refine ziload_5_3 dX9_make_28 ?_
        refine zc_Model_109 rfl dX9_make_29 (by decide) (Nat.le_of_ble_eq_true rfl) (sp_Model_isTerm M b (B 0 0) hb t1 t20) (fun r29 M29 hq29 => ?_)
        refine z_withR (fun hR => ?_)
        have e29 := hq29.1.symm
        subst e29
        have q29 := hq29.2
        have q29 := or_if q29
        refine z_if_eq (tgt := 39) (or_rng q29) dX9_make_32 (by decide) (fun h32 => ?_) (fun h32 => ?_)
        · have yb := or_no q29 h32
          have hno : ¬ mkO B w a b := by
            rintro (z | z)
            · exact yb z.2.2
            · exact z.1 h16
          refine z_iconst dX9_make_39 ?_
          refine z_goto (tgt := 69) dX9_make_40 (by decide) ?_
          first
            | exact k69 1 h7 (Or.inl ⟨rfl, hok⟩)
            | exact k69 0 h7 (Or.inr ⟨rfl, hno⟩)
        · have yb := or_yes q29 h32
          have hok : mkO B w a b := Or.inl ⟨h16, ya, yb⟩
          refine z_iconst dX9_make_35 ?_
          refine z_goto (tgt := 69) dX9_make_36 (by decide) ?_
          first
            | exact k69 1 h7 (Or.inl ⟨rfl, hok⟩)
            | exact k69 0 h7 (Or.inr ⟨rfl, hno⟩)
  · have y := or_no q6 h9
    refine z_bipush dX9_make_12 (by decide) ?_
    refine z_iret rfl ?_ dX9_make_14
    exact bad (fun z => y ⟨z.1, by omega⟩)
