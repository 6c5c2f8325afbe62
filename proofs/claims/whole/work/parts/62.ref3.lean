theorem bm_step (f : Nat → Bool) (m : Nat) : bm f (m + 1) = bm f m ||| (if f m then 2 ^ m else 0) := by
  cases h : f m
  · rw [bm_skip f h]; simp
  · rw [← bm_or f h]; simp
theorem sp_Model_layBroken1 (M : zMem) (L R a b : Nat → Nat) (T P : Nat) (hT : tmR M L R T) (hP : P ≤ 6) (hab : ∀ l, l < P → (M 38 l = a l ∧ M 39 l = b l) ∧ a l < T ∧ b l < T) : zSp zd_Model_layBroken 2 [zr 9, zr 43, zr 38, zr 39, zi P] M (fun _ M' => zfr [9, 40, 41, 42, 43] M M' ∧ (∀ i, i ≠ 8 → M' 9 i = M 9 i) ∧ ∀ p, p < 19700 → M' 43 p = bm (fun l => !kp L R (pz p) (pq p) (a l) (b l)) P) := by
  refine zSp_in 2 [some (zr 9), some (zr 43), some (zr 38), some (zr 39), some (zi P), none, none] rfl rfl (by decide +kernel) rfl ?_
  refine z_withR (fun hR => ?_)
  obtain ⟨post, hpost⟩ : ∃ post : Int → zMem → Prop, post = (fun (_ : Int) M' => zfr [9, 40, 41, 42, 43] M M' ∧ (∀ i, i ≠ 8 → M' 9 i = M 9 i) ∧ ∀ p, p < 19700 → M' 43 p = bm (fun l => !kp L R (pz p) (pq p) (a l) (b l)) P) := ⟨_, rfl⟩
  rw [← hpost]
  have loop2 : ∀ (c l : Nat) (M1 : zMem) (l6 : Option zAV), l + c = P → zfr [9, 40, 41, 42, 43] M M1 → (∀ i, i ≠ 8 → M1 9 i = M 9 i) → (∀ p, p < 19700 → M1 43 p = bm (fun l => !kp L R (pz p) (pq p) (a l) (b l)) l) → zV zd_Model_layBroken 2 25 [some (zr 9), some (zr 43), some (zr 38), some (zr 39), some (zi P), some (zi l), l6] [] M1 post := by
    intro c
    induction c with
    | zero =>
      intro l M1 l6 hl hf h9 hrow
      refine z_withR (fun hR => ?_)
      refine ziload_7_5 dX9_layBroken_25 ?_
      refine ziload_7_4 dX9_layBroken_27 ?_
      refine z_icmp_ge (tgt := 103) (by first | omega | exact hR.1 _ _ (by decide) | exact zrng_toInt _) (by first | omega | exact hR.1 _ _ (by decide) | exact zrng_toInt _) dX9_layBroken_29 (by decide) (fun h29 => ?_) (fun h29 => ?_)
      · refine z_vret rfl ?_ dX9_layBroken_103
        rw [hpost]
        have e : l = P := by omega
        rw [e] at hrow
        exact ⟨hf, h9, hrow⟩
      · omega
    | succ c ih =>
      intro l M1 l6 hl hf h9 hrow
      obtain ⟨⟨ea, eb⟩, la, lb⟩ := hab l (by omega)
      have hT1 : ∀ M2, zfr [9, 40, 41, 42, 43] M M2 → (∀ i, i ≠ 8 → M2 9 i = M 9 i) → tmR M2 L R T := fun M2 f2 g2 => hT.fr f2 (g2 _ (by decide)) (by decide) (by decide)
      have inn : ∀ (d p : Nat) (M2 : zMem), p + d = 19700 → zfr [9, 40, 41, 42, 43] M M2 → (∀ i, i ≠ 8 → M2 9 i = M 9 i) → wnR M2 L R T (a l) (b l) → (∀ p', p' < p → M2 43 p' = bm (fun l => !kp L R (pz p') (pq p') (a l) (b l)) (l + 1)) → (∀ p', p ≤ p' → p' < 19700 → M2 43 p' = bm (fun l => !kp L R (pz p') (pq p') (a l) (b l)) l) → zV zd_Model_layBroken 2 47 [some (zr 9), some (zr 43), some (zr 38), some (zr 39), some (zi P), some (zi l), some (zi p)] [] M2 post := by
        intro d
        induction d with
        | zero =>
          intro p M2 hp hf2 h92 hw2 hr1 hr2
          refine z_withR (fun hR => ?_)
          refine ziload_7_6 dX9_layBroken_47 ?_
          refine z_sipush dX9_layBroken_49 (by decide) ?_
          refine z_icmp_ge (tgt := 97) (by first | omega | exact hR.1 _ _ (by decide) | exact zrng_toInt _) (by first | omega | exact hR.1 _ _ (by decide) | exact zrng_toInt _) dX9_layBroken_52 (by decide) (fun h52 => ?_) (fun h52 => ?_)
          · refine ziinc_7_5 dX9_layBroken_97 ?_
            refine z_goto (tgt := 25) dX9_layBroken_100 (by decide) ?_
            exact ih (l + 1) M2 _ (by omega) hf2 h92 (fun p' hp' => hr1 p' (by omega))
          · omega
        | succ d ihd =>
          intro p M2 hp hf2 h92 hw2 hr1 hr2
          have hst := bm_step (fun l => !kp L R (pz p) (pq p) (a l) (b l)) l
          have hbl := bm_lt (fun l => !kp L R (pz p) (pq p) (a l) (b l)) l
          have hbl2 := bm_lt (fun l => !kp L R (pz p) (pq p) (a l) (b l)) (l + 1)
          have pl2 : 2 ^ (l + 1) ≤ 2 ^ 6 := Nat.pow_le_pow_right (by decide) (by omega)
          have pl : 2 ^ l ≤ 2 ^ 5 := Nat.pow_le_pow_right (by decide) (by omega)
          have er := hr2 p (Nat.le_refl _) (by omega)
          have k91 : ∀ (M3 : zMem), zfr [9, 40, 41, 42, 43] M M3 → (∀ i, i ≠ 8 → M3 9 i = M 9 i) → wnR M3 L R T (a l) (b l) → M3 43 = M2 43 → zV zd_Model_layBroken 2 91 [some (zr 9), some (zr 43), some (zr 38), some (zr 39), some (zi P), some (zi l), some (zi p)] [] (zmu M3 43 p ((bm (fun l => !kp L R (pz p) (pq p) (a l) (b l)) (l + 1) : Nat) : Int)) post := by
            intro M3 hf3 h93 hw3 e3
            refine z_withR (fun hR => ?_)
            refine ziinc_7_6 dX9_layBroken_91 ?_
            refine z_goto (tgt := 47) dX9_layBroken_94 (by decide) ?_
            refine ihd (p + 1) _ (by omega) (hf3.mu (by decide)) (fun i hi => by rw [zmu_other _ _ _ _ (by decide)]; exact h93 i hi) (hw3.fr (zfr.rf.mu (by decide) : zfr [43] M3 _) (by decide)) (fun p' hp' => ?_) (fun p' h1 h2 => ?_)
            · by_cases e : p' = p
              · rw [e, zmu_same]
              · rw [zmu_ne _ _ _ _ e, e3]; exact hr1 p' (by omega)
            · rw [zmu_ne _ _ _ _ (by omega), e3]; exact hr2 p' (by omega) h2
          refine z_withR (fun hR => ?_)
          refine ziload_7_6 dX9_layBroken_47 ?_
          refine z_sipush dX9_layBroken_49 (by decide) ?_
          refine z_icmp_ge (tgt := 97) (by first | omega | exact hR.1 _ _ (by decide) | exact zrng_toInt _) (by first | omega | exact hR.1 _ _ (by decide) | exact zrng_toInt _) dX9_layBroken_52 (by decide) (fun h52 => ?_) (fun h52 => ?_)
          · omega
          · refine zaload_7_0 dX9_layBroken_55 ?_
            refine ziload_7_6 dX9_layBroken_56 ?_
            refine zc_Model_138 rfl dX9_layBroken_58 (by decide) (Nat.le_of_ble_eq_true rfl) (sp_Model_layWorld M2 p (by omega)) (fun r58 M58 hq58 => ?_)
            refine z_withR (fun hR => ?_)
            obtain ⟨f58, g58, t58⟩ := hq58
            have hf5 : zfr [9, 40, 41, 42, 43] M M58 := hf2.tr f58 (by decide) (by decide)
            have h95 : ∀ i, i ≠ 8 → M58 9 i = M 9 i := fun i hi => by rw [g58 i hi]; exact h92 i hi
            have hw5 := hw2.fr f58 (by decide)
            have er5 : M58 43 p = ((bm (fun l => !kp L R (pz p) (pq p) (a l) (b l)) l : Nat) : Int) := by rw [f58 43 (by decide)]; exact er
            have ea5 : M58 38 l = a l := by rw [hf5 38 (by decide)]; exact ea
            have eb5 : M58 39 l = b l := by rw [hf5 39 (by decide)]; exact eb
            refine zaload_7_1 dX9_layBroken_61 ?_
            refine ziload_7_6 dX9_layBroken_62 ?_
            refine z_dup2 (fun _ => rfl) (fun _ => rfl) dX9_layBroken_64 ?_
            refine z_iald _ rfl (by decide) (by decide) rfl (by omega) dX9_layBroken_65 ?_
            refine z_top er5 ?_
            refine zaload_7_0 dX9_layBroken_66 ?_
            refine zaload_7_2 dX9_layBroken_67 ?_
            refine ziload_7_5 dX9_layBroken_68 ?_
            refine z_iald _ rfl (by decide) (by decide) rfl (by omega) dX9_layBroken_70 ?_
            refine z_top ea5 ?_
            refine zaload_7_3 dX9_layBroken_71 ?_
            refine ziload_7_5 dX9_layBroken_72 ?_
            refine z_iald _ rfl (by decide) (by decide) rfl (by omega) dX9_layBroken_74 ?_
            refine z_top eb5 ?_
            refine zc_Model_142 rfl dX9_layBroken_75 (by decide) (Nat.le_of_ble_eq_true rfl) (sp_Model_keepsOne M58 L R T (pz p) (pq p) (a l) (b l) (pz_ok p) t58 (hT1 M58 hf5 h95) la lb hw5) (fun r75 M75 hq75 => ?_)
            refine z_withR (fun hR => ?_)
            obtain ⟨f75, q75⟩ := hq75
            have q75 := or_if q75
            have hf7 : zfr [9, 40, 41, 42, 43] M M75 := hf5.tr f75 (by decide) (by decide)
            have h97 : ∀ i, i ≠ 8 → M75 9 i = M 9 i := fun i hi => by rw [f75 9 (by decide)]; exact h95 i hi
            have hw7 := hw5.fr f75 (by decide)
            have er7 : M75 43 = M2 43 := by rw [f75 43 (by decide), f58 43 (by decide)]
            refine z_if_eq (tgt := 85) (or_rng q75) dX9_layBroken_78 (by decide) (fun h78 => ?_) (fun h78 => ?_)
            · have y := or_no q75 h78
              have hv : bm (fun l => !kp L R (pz p) (pq p) (a l) (b l)) (l + 1) = bm (fun l => !kp L R (pz p) (pq p) (a l) (b l)) l ||| 2 ^ l := by rw [hst, if_pos (by simpa using y)]
              refine z_iconst dX9_layBroken_85 ?_
              refine ziload_7_5 dX9_layBroken_86 ?_
              refine z_ishl dX9_layBroken_88 ?_
              refine z_top (zShl_one (by omega)) ?_
              refine z_ior dX9_layBroken_89 ?_
              first
                | refine z_top (zOr_nat (b := 0) (by omega) (by omega)) ?_
                | refine z_top (zOr_nat (by omega) (by omega)) ?_
              rw [← hv]
              refine z_iast _ (by decide) rfl (by decide) (by decide) rfl (by omega) (by first | omega | exact hR.1 _ _ (by decide) | exact zrng_toInt _) dX9_layBroken_90 ?_
              refine z_withR (fun hR => ?_)
              exact k91 M75 hf7 h97 hw7 er7
            · have y := or_yes q75 h78
              have hv : bm (fun l => !kp L R (pz p) (pq p) (a l) (b l)) (l + 1) = bm (fun l => !kp L R (pz p) (pq p) (a l) (b l)) l ||| 0 := by rw [hst, if_neg (by simp [y])]
              refine z_iconst dX9_layBroken_81 ?_
              refine z_goto (tgt := 89) dX9_layBroken_82 (by decide) ?_
              refine z_ior dX9_layBroken_89 ?_
              first
                | refine z_top (zOr_nat (b := 0) (by omega) (by omega)) ?_
                | refine z_top (zOr_nat (by omega) (by omega)) ?_
              rw [← hv]
              refine z_iast _ (by decide) rfl (by decide) (by decide) rfl (by omega) (by first | omega | exact hR.1 _ _ (by decide) | exact zrng_toInt _) dX9_layBroken_90 ?_
              refine z_withR (fun hR => ?_)
              exact k91 M75 hf7 h97 hw7 er7
      refine z_withR (fun hR => ?_)
      refine ziload_7_5 dX9_layBroken_25 ?_
      refine ziload_7_4 dX9_layBroken_27 ?_
      refine z_icmp_ge (tgt := 103) (by first | omega | exact hR.1 _ _ (by decide) | exact zrng_toInt _) (by first | omega | exact hR.1 _ _ (by decide) | exact zrng_toInt _) dX9_layBroken_29 (by decide) (fun h29 => ?_) (fun h29 => ?_)
      · omega
      · refine zaload_7_0 dX9_layBroken_32 ?_
        refine zaload_7_2 dX9_layBroken_33 ?_
        refine ziload_7_5 dX9_layBroken_34 ?_
        refine z_iald _ rfl (by decide) (by decide) rfl (by omega) dX9_layBroken_36 ?_
        refine z_top (show M1 38 l = a l by rw [hf 38 (by decide)]; exact ea) ?_
        refine zaload_7_3 dX9_layBroken_37 ?_
        refine ziload_7_5 dX9_layBroken_38 ?_
        refine z_iald _ rfl (by decide) (by decide) rfl (by omega) dX9_layBroken_40 ?_
        refine z_top (show M1 39 l = b l by rw [hf 39 (by decide)]; exact eb) ?_
        refine zc_Model_134 rfl dX9_layBroken_41 (by decide) (Nat.le_of_ble_eq_true rfl) (sp_Model_want M1 L R T (a l) (b l) (hT1 M1 hf h9) la lb) (fun r41 M41 hq41 => ?_)
        refine z_withR (fun hR => ?_)
        refine z_iconst dX9_layBroken_44 ?_
        refine zistore_7_6 dX9_layBroken_45 ?_
        exact inn 19700 0 M41 (by omega) (hf.tr hq41.1 (by decide) (by decide)) (fun i hi => by rw [hq41.1 9 (by decide)]; exact h9 i hi) hq41.2 (fun p' h => absurd h (Nat.not_lt_zero _)) (fun p' _ h => by rw [hq41.1 43 (by decide)]; exact hrow p' h)
  have loop1 : ∀ (c i : Nat) (M1 : zMem), i + c = 19700 → zfr [43] M M1 → (∀ p, p < i → M1 43 p = 0) → zV zd_Model_layBroken 2 3 [some (zr 9), some (zr 43), some (zr 38), some (zr 39), some (zi P), some (zi i), none] [] M1 post := by
    intro c
    induction c with
    | zero =>
      intro i M1 hi hf h0
      refine z_withR (fun hR => ?_)
      refine ziload_7_5 dX9_layBroken_3 ?_
      refine z_sipush dX9_layBroken_5 (by decide) ?_
      refine z_icmp_ge (tgt := 22) (by first | omega | exact hR.1 _ _ (by decide) | exact zrng_toInt _) (by first | omega | exact hR.1 _ _ (by decide) | exact zrng_toInt _) dX9_layBroken_8 (by decide) (fun h8 => ?_) (fun h8 => ?_)
      · refine z_iconst dX9_layBroken_22 ?_
        refine zistore_7_5 dX9_layBroken_23 ?_
        exact loop2 P 0 M1 _ (by omega) (hf.up (by decide)) (fun i _ => by rw [hf 9 (by decide)]) (fun p hp => by rw [h0 p (by omega)]; rfl)
      · omega
    | succ c ih =>
      intro i M1 hi hf h0
      refine z_withR (fun hR => ?_)
      refine ziload_7_5 dX9_layBroken_3 ?_
      refine z_sipush dX9_layBroken_5 (by decide) ?_
      refine z_icmp_ge (tgt := 22) (by first | omega | exact hR.1 _ _ (by decide) | exact zrng_toInt _) (by first | omega | exact hR.1 _ _ (by decide) | exact zrng_toInt _) dX9_layBroken_8 (by decide) (fun h8 => ?_) (fun h8 => ?_)
      · omega
      · refine zaload_7_1 dX9_layBroken_11 ?_
        refine ziload_7_5 dX9_layBroken_12 ?_
        refine z_iconst dX9_layBroken_14 ?_
        refine z_iast _ (by decide) rfl (by decide) (by decide) rfl (by omega) (by first | omega | exact hR.1 _ _ (by decide) | exact zrng_toInt _) dX9_layBroken_15 ?_
        refine z_withR (fun hR => ?_)
        refine ziinc_7_5 dX9_layBroken_16 ?_
        refine z_goto (tgt := 3) dX9_layBroken_19 (by decide) ?_
        refine ih (i + 1) _ (by omega) (hf.mu (by decide)) (fun p hp => ?_)
        by_cases e : p = i
        · rw [e, zmu_same]
        · rw [zmu_ne _ _ _ _ e]; exact h0 p (by omega)
  refine z_iconst dX9_layBroken_0 ?_
  refine zistore_7_5 dX9_layBroken_1 ?_
  exact loop1 19700 0 M (by omega) zfr.rf (fun p h => absurd h (Nat.not_lt_zero _))
theorem sp_Model_layBroken2 (M : zMem) (L R a b : Nat → Nat) (T P : Nat) (hT : tmR M L R T) (hP : P ≤ 6) (hab : ∀ l, l < P → (M 59 l = a l ∧ M 60 l = b l) ∧ a l < T ∧ b l < T) : zSp zd_Model_layBroken 2 [zr 9, zr 44, zr 59, zr 60, zi P] M (fun _ M' => zfr [9, 40, 41, 42, 44] M M' ∧ (∀ i, i ≠ 8 → M' 9 i = M 9 i) ∧ ∀ p, p < 19700 → M' 44 p = bm (fun l => !kp L R (pz p) (pq p) (a l) (b l)) P) := by
  refine zSp_in 2 [some (zr 9), some (zr 44), some (zr 59), some (zr 60), some (zi P), none, none] rfl rfl (by decide +kernel) rfl ?_
  refine z_withR (fun hR => ?_)
  obtain ⟨post, hpost⟩ : ∃ post : Int → zMem → Prop, post = (fun (_ : Int) M' => zfr [9, 40, 41, 42, 44] M M' ∧ (∀ i, i ≠ 8 → M' 9 i = M 9 i) ∧ ∀ p, p < 19700 → M' 44 p = bm (fun l => !kp L R (pz p) (pq p) (a l) (b l)) P) := ⟨_, rfl⟩
  rw [← hpost]
  have loop2 : ∀ (c l : Nat) (M1 : zMem) (l6 : Option zAV), l + c = P → zfr [9, 40, 41, 42, 44] M M1 → (∀ i, i ≠ 8 → M1 9 i = M 9 i) → (∀ p, p < 19700 → M1 44 p = bm (fun l => !kp L R (pz p) (pq p) (a l) (b l)) l) → zV zd_Model_layBroken 2 25 [some (zr 9), some (zr 44), some (zr 59), some (zr 60), some (zi P), some (zi l), l6] [] M1 post := by
    intro c
    induction c with
    | zero =>
      intro l M1 l6 hl hf h9 hrow
      refine z_withR (fun hR => ?_)
      refine ziload_7_5 dX9_layBroken_25 ?_
      refine ziload_7_4 dX9_layBroken_27 ?_
      refine z_icmp_ge (tgt := 103) (by first | omega | exact hR.1 _ _ (by decide) | exact zrng_toInt _) (by first | omega | exact hR.1 _ _ (by decide) | exact zrng_toInt _) dX9_layBroken_29 (by decide) (fun h29 => ?_) (fun h29 => ?_)
      · refine z_vret rfl ?_ dX9_layBroken_103
        rw [hpost]
        have e : l = P := by omega
        rw [e] at hrow
        exact ⟨hf, h9, hrow⟩
      · omega
    | succ c ih =>
      intro l M1 l6 hl hf h9 hrow
      obtain ⟨⟨ea, eb⟩, la, lb⟩ := hab l (by omega)
      have hT1 : ∀ M2, zfr [9, 40, 41, 42, 44] M M2 → (∀ i, i ≠ 8 → M2 9 i = M 9 i) → tmR M2 L R T := fun M2 f2 g2 => hT.fr f2 (g2 _ (by decide)) (by decide) (by decide)
      have inn : ∀ (d p : Nat) (M2 : zMem), p + d = 19700 → zfr [9, 40, 41, 42, 44] M M2 → (∀ i, i ≠ 8 → M2 9 i = M 9 i) → wnR M2 L R T (a l) (b l) → (∀ p', p' < p → M2 44 p' = bm (fun l => !kp L R (pz p') (pq p') (a l) (b l)) (l + 1)) → (∀ p', p ≤ p' → p' < 19700 → M2 44 p' = bm (fun l => !kp L R (pz p') (pq p') (a l) (b l)) l) → zV zd_Model_layBroken 2 47 [some (zr 9), some (zr 44), some (zr 59), some (zr 60), some (zi P), some (zi l), some (zi p)] [] M2 post := by
        intro d
        induction d with
        | zero =>
          intro p M2 hp hf2 h92 hw2 hr1 hr2
          refine z_withR (fun hR => ?_)
          refine ziload_7_6 dX9_layBroken_47 ?_
          refine z_sipush dX9_layBroken_49 (by decide) ?_
          refine z_icmp_ge (tgt := 97) (by first | omega | exact hR.1 _ _ (by decide) | exact zrng_toInt _) (by first | omega | exact hR.1 _ _ (by decide) | exact zrng_toInt _) dX9_layBroken_52 (by decide) (fun h52 => ?_) (fun h52 => ?_)
          · refine ziinc_7_5 dX9_layBroken_97 ?_
            refine z_goto (tgt := 25) dX9_layBroken_100 (by decide) ?_
            exact ih (l + 1) M2 _ (by omega) hf2 h92 (fun p' hp' => hr1 p' (by omega))
          · omega
        | succ d ihd =>
          intro p M2 hp hf2 h92 hw2 hr1 hr2
          have hst := bm_step (fun l => !kp L R (pz p) (pq p) (a l) (b l)) l
          have hbl := bm_lt (fun l => !kp L R (pz p) (pq p) (a l) (b l)) l
          have hbl2 := bm_lt (fun l => !kp L R (pz p) (pq p) (a l) (b l)) (l + 1)
          have pl2 : 2 ^ (l + 1) ≤ 2 ^ 6 := Nat.pow_le_pow_right (by decide) (by omega)
          have pl : 2 ^ l ≤ 2 ^ 5 := Nat.pow_le_pow_right (by decide) (by omega)
          have er := hr2 p (Nat.le_refl _) (by omega)
          have k91 : ∀ (M3 : zMem), zfr [9, 40, 41, 42, 44] M M3 → (∀ i, i ≠ 8 → M3 9 i = M 9 i) → wnR M3 L R T (a l) (b l) → M3 44 = M2 44 → zV zd_Model_layBroken 2 91 [some (zr 9), some (zr 44), some (zr 59), some (zr 60), some (zi P), some (zi l), some (zi p)] [] (zmu M3 44 p ((bm (fun l => !kp L R (pz p) (pq p) (a l) (b l)) (l + 1) : Nat) : Int)) post := by
            intro M3 hf3 h93 hw3 e3
            refine z_withR (fun hR => ?_)
            refine ziinc_7_6 dX9_layBroken_91 ?_
            refine z_goto (tgt := 47) dX9_layBroken_94 (by decide) ?_
            refine ihd (p + 1) _ (by omega) (hf3.mu (by decide)) (fun i hi => by rw [zmu_other _ _ _ _ (by decide)]; exact h93 i hi) (hw3.fr (zfr.rf.mu (by decide) : zfr [44] M3 _) (by decide)) (fun p' hp' => ?_) (fun p' h1 h2 => ?_)
            · by_cases e : p' = p
              · rw [e, zmu_same]
              · rw [zmu_ne _ _ _ _ e, e3]; exact hr1 p' (by omega)
            · rw [zmu_ne _ _ _ _ (by omega), e3]; exact hr2 p' (by omega) h2
          refine z_withR (fun hR => ?_)
          refine ziload_7_6 dX9_layBroken_47 ?_
          refine z_sipush dX9_layBroken_49 (by decide) ?_
          refine z_icmp_ge (tgt := 97) (by first | omega | exact hR.1 _ _ (by decide) | exact zrng_toInt _) (by first | omega | exact hR.1 _ _ (by decide) | exact zrng_toInt _) dX9_layBroken_52 (by decide) (fun h52 => ?_) (fun h52 => ?_)
          · omega
          · refine zaload_7_0 dX9_layBroken_55 ?_
            refine ziload_7_6 dX9_layBroken_56 ?_
            refine zc_Model_138 rfl dX9_layBroken_58 (by decide) (Nat.le_of_ble_eq_true rfl) (sp_Model_layWorld M2 p (by omega)) (fun r58 M58 hq58 => ?_)
            refine z_withR (fun hR => ?_)
            obtain ⟨f58, g58, t58⟩ := hq58
            have hf5 : zfr [9, 40, 41, 42, 44] M M58 := hf2.tr f58 (by decide) (by decide)
            have h95 : ∀ i, i ≠ 8 → M58 9 i = M 9 i := fun i hi => by rw [g58 i hi]; exact h92 i hi
            have hw5 := hw2.fr f58 (by decide)
            have er5 : M58 44 p = ((bm (fun l => !kp L R (pz p) (pq p) (a l) (b l)) l : Nat) : Int) := by rw [f58 44 (by decide)]; exact er
            have ea5 : M58 59 l = a l := by rw [hf5 59 (by decide)]; exact ea
            have eb5 : M58 60 l = b l := by rw [hf5 60 (by decide)]; exact eb
            refine zaload_7_1 dX9_layBroken_61 ?_
            refine ziload_7_6 dX9_layBroken_62 ?_
            refine z_dup2 (fun _ => rfl) (fun _ => rfl) dX9_layBroken_64 ?_
            refine z_iald _ rfl (by decide) (by decide) rfl (by omega) dX9_layBroken_65 ?_
            refine z_top er5 ?_
            refine zaload_7_0 dX9_layBroken_66 ?_
            refine zaload_7_2 dX9_layBroken_67 ?_
            refine ziload_7_5 dX9_layBroken_68 ?_
            refine z_iald _ rfl (by decide) (by decide) rfl (by omega) dX9_layBroken_70 ?_
            refine z_top ea5 ?_
            refine zaload_7_3 dX9_layBroken_71 ?_
            refine ziload_7_5 dX9_layBroken_72 ?_
            refine z_iald _ rfl (by decide) (by decide) rfl (by omega) dX9_layBroken_74 ?_
            refine z_top eb5 ?_
            refine zc_Model_142 rfl dX9_layBroken_75 (by decide) (Nat.le_of_ble_eq_true rfl) (sp_Model_keepsOne M58 L R T (pz p) (pq p) (a l) (b l) (pz_ok p) t58 (hT1 M58 hf5 h95) la lb hw5) (fun r75 M75 hq75 => ?_)
            refine z_withR (fun hR => ?_)
            obtain ⟨f75, q75⟩ := hq75
            have q75 := or_if q75
            have hf7 : zfr [9, 40, 41, 42, 44] M M75 := hf5.tr f75 (by decide) (by decide)
            have h97 : ∀ i, i ≠ 8 → M75 9 i = M 9 i := fun i hi => by rw [f75 9 (by decide)]; exact h95 i hi
            have hw7 := hw5.fr f75 (by decide)
            have er7 : M75 44 = M2 44 := by rw [f75 44 (by decide), f58 44 (by decide)]
            refine z_if_eq (tgt := 85) (or_rng q75) dX9_layBroken_78 (by decide) (fun h78 => ?_) (fun h78 => ?_)
            · have y := or_no q75 h78
              have hv : bm (fun l => !kp L R (pz p) (pq p) (a l) (b l)) (l + 1) = bm (fun l => !kp L R (pz p) (pq p) (a l) (b l)) l ||| 2 ^ l := by rw [hst, if_pos (by simpa using y)]
              refine z_iconst dX9_layBroken_85 ?_
              refine ziload_7_5 dX9_layBroken_86 ?_
              refine z_ishl dX9_layBroken_88 ?_
              refine z_top (zShl_one (by omega)) ?_
              refine z_ior dX9_layBroken_89 ?_
              first
                | refine z_top (zOr_nat (b := 0) (by omega) (by omega)) ?_
                | refine z_top (zOr_nat (by omega) (by omega)) ?_
              rw [← hv]
              refine z_iast _ (by decide) rfl (by decide) (by decide) rfl (by omega) (by first | omega | exact hR.1 _ _ (by decide) | exact zrng_toInt _) dX9_layBroken_90 ?_
              refine z_withR (fun hR => ?_)
              exact k91 M75 hf7 h97 hw7 er7
            · have y := or_yes q75 h78
              have hv : bm (fun l => !kp L R (pz p) (pq p) (a l) (b l)) (l + 1) = bm (fun l => !kp L R (pz p) (pq p) (a l) (b l)) l ||| 0 := by rw [hst, if_neg (by simp [y])]
              refine z_iconst dX9_layBroken_81 ?_
              refine z_goto (tgt := 89) dX9_layBroken_82 (by decide) ?_
              refine z_ior dX9_layBroken_89 ?_
              first
                | refine z_top (zOr_nat (b := 0) (by omega) (by omega)) ?_
                | refine z_top (zOr_nat (by omega) (by omega)) ?_
              rw [← hv]
              refine z_iast _ (by decide) rfl (by decide) (by decide) rfl (by omega) (by first | omega | exact hR.1 _ _ (by decide) | exact zrng_toInt _) dX9_layBroken_90 ?_
              refine z_withR (fun hR => ?_)
              exact k91 M75 hf7 h97 hw7 er7
      refine z_withR (fun hR => ?_)
      refine ziload_7_5 dX9_layBroken_25 ?_
      refine ziload_7_4 dX9_layBroken_27 ?_
      refine z_icmp_ge (tgt := 103) (by first | omega | exact hR.1 _ _ (by decide) | exact zrng_toInt _) (by first | omega | exact hR.1 _ _ (by decide) | exact zrng_toInt _) dX9_layBroken_29 (by decide) (fun h29 => ?_) (fun h29 => ?_)
      · omega
      · refine zaload_7_0 dX9_layBroken_32 ?_
        refine zaload_7_2 dX9_layBroken_33 ?_
        refine ziload_7_5 dX9_layBroken_34 ?_
        refine z_iald _ rfl (by decide) (by decide) rfl (by omega) dX9_layBroken_36 ?_
        refine z_top (show M1 59 l = a l by rw [hf 59 (by decide)]; exact ea) ?_
        refine zaload_7_3 dX9_layBroken_37 ?_
        refine ziload_7_5 dX9_layBroken_38 ?_
        refine z_iald _ rfl (by decide) (by decide) rfl (by omega) dX9_layBroken_40 ?_
        refine z_top (show M1 60 l = b l by rw [hf 60 (by decide)]; exact eb) ?_
        refine zc_Model_134 rfl dX9_layBroken_41 (by decide) (Nat.le_of_ble_eq_true rfl) (sp_Model_want M1 L R T (a l) (b l) (hT1 M1 hf h9) la lb) (fun r41 M41 hq41 => ?_)
        refine z_withR (fun hR => ?_)
        refine z_iconst dX9_layBroken_44 ?_
        refine zistore_7_6 dX9_layBroken_45 ?_
        exact inn 19700 0 M41 (by omega) (hf.tr hq41.1 (by decide) (by decide)) (fun i hi => by rw [hq41.1 9 (by decide)]; exact h9 i hi) hq41.2 (fun p' h => absurd h (Nat.not_lt_zero _)) (fun p' _ h => by rw [hq41.1 44 (by decide)]; exact hrow p' h)
  have loop1 : ∀ (c i : Nat) (M1 : zMem), i + c = 19700 → zfr [44] M M1 → (∀ p, p < i → M1 44 p = 0) → zV zd_Model_layBroken 2 3 [some (zr 9), some (zr 44), some (zr 59), some (zr 60), some (zi P), some (zi i), none] [] M1 post := by
    intro c
    induction c with
    | zero =>
      intro i M1 hi hf h0
      refine z_withR (fun hR => ?_)
      refine ziload_7_5 dX9_layBroken_3 ?_
      refine z_sipush dX9_layBroken_5 (by decide) ?_
      refine z_icmp_ge (tgt := 22) (by first | omega | exact hR.1 _ _ (by decide) | exact zrng_toInt _) (by first | omega | exact hR.1 _ _ (by decide) | exact zrng_toInt _) dX9_layBroken_8 (by decide) (fun h8 => ?_) (fun h8 => ?_)
      · refine z_iconst dX9_layBroken_22 ?_
        refine zistore_7_5 dX9_layBroken_23 ?_
        exact loop2 P 0 M1 _ (by omega) (hf.up (by decide)) (fun i _ => by rw [hf 9 (by decide)]) (fun p hp => by rw [h0 p (by omega)]; rfl)
      · omega
    | succ c ih =>
      intro i M1 hi hf h0
      refine z_withR (fun hR => ?_)
      refine ziload_7_5 dX9_layBroken_3 ?_
      refine z_sipush dX9_layBroken_5 (by decide) ?_
      refine z_icmp_ge (tgt := 22) (by first | omega | exact hR.1 _ _ (by decide) | exact zrng_toInt _) (by first | omega | exact hR.1 _ _ (by decide) | exact zrng_toInt _) dX9_layBroken_8 (by decide) (fun h8 => ?_) (fun h8 => ?_)
      · omega
      · refine zaload_7_1 dX9_layBroken_11 ?_
        refine ziload_7_5 dX9_layBroken_12 ?_
        refine z_iconst dX9_layBroken_14 ?_
        refine z_iast _ (by decide) rfl (by decide) (by decide) rfl (by omega) (by first | omega | exact hR.1 _ _ (by decide) | exact zrng_toInt _) dX9_layBroken_15 ?_
        refine z_withR (fun hR => ?_)
        refine ziinc_7_5 dX9_layBroken_16 ?_
        refine z_goto (tgt := 3) dX9_layBroken_19 (by decide) ?_
        refine ih (i + 1) _ (by omega) (hf.mu (by decide)) (fun p hp => ?_)
        by_cases e : p = i
        · rw [e, zmu_same]
        · rw [zmu_ne _ _ _ _ e]; exact h0 p (by omega)
  refine z_iconst dX9_layBroken_0 ?_
  refine zistore_7_5 dX9_layBroken_1 ?_
  exact loop1 19700 0 M (by omega) zfr.rf (fun p h => absurd h (Nat.not_lt_zero _))
