theorem zro_cN {n : Nat} (hn : okn n) : zro 70 n = cN n := by rcases hn with rfl | rfl | rfl <;> rfl
theorem cN_le {n : Nat} (hn : okn n) : cN n ≤ 19683 ∧ 1 ≤ cN n := by rcases hn with rfl | rfl | rfl <;> decide
theorem sT_cC {n : Nat} (hn : okn n) : sT n + cC n ≤ 3341 ∧ (3341 ≤ sT n + cC n → n = 3) := by
  rcases hn with rfl | rfl | rfl
  · exact ⟨by decide, fun h => absurd h (by decide)⟩
  · exact ⟨by decide, fun h => absurd h (by decide)⟩
  · exact ⟨by decide, fun _ => rfl⟩
theorem sp_Catalog_fill (M : zMem) : zSp zd_Catalog_fill 3 [zr 4] M (fun _ M' => zfr [3, 15, 17, 18, 4] M M' ∧ catF M' ∧ M' 4 4 = 1 ∧ ∀ i, i ≠ 4 → M' 4 i = M 4 i) := by
  refine zSp_in 4 [some (zr 4), none, none, none, none] rfl rfl (by decide +kernel) rfl ?_
  refine z_withR (fun hR => ?_)
  obtain ⟨post, hpost⟩ : ∃ post : Int → zMem → Prop, post = (fun (_ : Int) M' => zfr [3, 15, 17, 18, 4] M M' ∧ catF M' ∧ M' 4 4 = 1 ∧ ∀ i, i ≠ 4 → M' 4 i = M 4 i) := ⟨_, rfl⟩
  rw [← hpost]
  have inner : ∀ (n : Nat), okn n → (∀ (M2 : zMem) (g g2 : Option zAV), zfr [3, 15, 17, 18] M M2 → (∀ e, e < sT n + cC n → M2 17 e = eK e ∧ M2 18 e = likes (eSz e) (eK e)) → zV zd_Catalog_fill 3 81 [some (zr 4), some (zi ((sT n + cC n : Nat) : Int)), some (zi n), g, g2] [] M2 post) →
      ∀ (q m : Nat) (M1 : zMem) (g : Option zAV), m + q = cN n → zfr [3, 15, 17, 18] M M1 → (m < cN n → tbl M1 n m) → (∀ e, e < sT n + cc n m → M1 17 e = eK e ∧ M1 18 e = likes (eSz e) (eK e)) → zV zd_Catalog_fill 3 20 [some (zr 4), some (zi ((sT n + cc n m : Nat) : Int)), some (zi n), some (zi m), g] [] M1 post := by
    intro n hn kk q
    have hn3 := hn.le
    have hz := zro_cN hn
    have hcl := cN_le hn
    have hsc := sT_cC hn
    induction q with
    | zero =>
      intro m M1 g hm hf ht hp
      have hcm : cc n m = cC n := by rw [show m = cN n by omega]; exact cc_all hn
      rw [hcm] at hp ⊢
      refine z_withR (fun hR => ?_)
      refine ziload_5_3 dX1_fill_20 ?_
      refine zg_Catalog_60 rfl dX1_fill_21 ?_
      refine ziload_5_2 dX1_fill_24 ?_
      refine z_tald70 _ rfl (by omega) dX1_fill_25 ?_
      refine z_top hz ?_
      refine z_icmp_ge (tgt := 81) (by first | omega | exact hR.1 _ _ (by decide) | exact zrng_toInt _) (by first | omega | exact hR.1 _ _ (by decide) | exact zrng_toInt _) dX1_fill_26 (by decide) (fun h26 => ?_) (fun h26 => ?_)
      · exact kk M1 _ _ hf hp
      · omega
    | succ q ih =>
      intro m M1 g hm hf ht hp
      have ht := ht (by omega)
      have hmc : cc n m ≤ cC n := by rw [← cc_all hn]; exact fb_ct_mono _ (by omega)
      have hpw := cN_pow hn
      obtain ⟨hlp, hl6⟩ := likes_pos (k := m) hn (by omega)
      refine z_withR (fun hR => ?_)
      have k68 : ∀ (M2 : zMem) (g : Option zAV), zfr [3, 15, 17, 18] M M2 → tbl M2 n m → (∀ e, e < sT n + cc n (m + 1) → M2 17 e = eK e ∧ M2 18 e = likes (eSz e) (eK e)) → zV zd_Catalog_fill 3 68 [some (zr 4), some (zi ((sT n + cc n (m + 1) : Nat) : Int)), some (zi n), some (zi m), g] [] M2 post := by
        intro M2 g hf2 ht2 hp2
        refine z_withR (fun hR => ?_)
        refine zaload_5_0 dX1_fill_68 ?_
        refine zg_Catalog_35 rfl dX1_fill_69 ?_
        refine zc_Catalog_67 rfl dX1_fill_72 (by decide) (Nat.le_of_ble_eq_true rfl) (sp_Table_advance M2 n m hn ht2) (fun r72 M72 hq72 => ?_)
        refine z_withR (fun hR => ?_)
        obtain ⟨hf3, ht3⟩ := hq72
        refine ziinc_5_3 dX1_fill_75 ?_
        refine z_goto (tgt := 20) dX1_fill_78 (by decide) ?_
        refine ih (m + 1) M72 _ (by omega) (hf2.tr hf3 (fun _ h => h) (by decide)) (fun h => ht3 (by omega)) (fun e he => ?_)
        rw [hf3 17 (by decide), hf3 18 (by decide)]
        exact hp2 e he
      have e26 : (n : Int).toNat = n := rfl
      refine ziload_5_3 dX1_fill_20 ?_
      refine zg_Catalog_60 rfl dX1_fill_21 ?_
      refine ziload_5_2 dX1_fill_24 ?_
      refine z_tald70 _ rfl (by omega) dX1_fill_25 ?_
      refine z_top hz ?_
      refine z_icmp_ge (tgt := 81) (by first | omega | exact hR.1 _ _ (by decide) | exact zrng_toInt _) (by first | omega | exact hR.1 _ _ (by decide) | exact zrng_toInt _) dX1_fill_26 (by decide) (fun h26 => ?_) (fun h26 => ?_)
      · omega
      · refine ziload_5_1 dX1_fill_29 ?_
        refine z_sipush dX1_fill_30 (by decide) ?_
        refine z_icmp_ge (tgt := 81) (by first | omega | exact hR.1 _ _ (by decide) | exact zrng_toInt _) (by first | omega | exact hR.1 _ _ (by decide) | exact zrng_toInt _) dX1_fill_33 (by decide) (fun h33 => ?_) (fun h33 => ?_)
        · have hfull : cc n m = cC n := by omega
          rw [hfull] at hp ⊢
          exact kk M1 _ _ hf hp
        · refine zaload_5_0 dX1_fill_36 ?_
          refine zg_Catalog_35 rfl dX1_fill_37 ?_
          refine zc_Catalog_63 rfl dX1_fill_40 (by decide) (Nat.le_of_ble_eq_true rfl) (sp_Table_likesIfLeast M1 n m hn ht (by omega)) (fun r40 M40 hq40 => ?_)
          refine z_withR (fun hR => ?_)
          obtain ⟨rfl, rfl⟩ := hq40
          refine zistore_5_4 dX1_fill_43 ?_
          refine ziload_5_4 dX1_fill_45 ?_
          refine z_if_le (tgt := 68) (by first | omega | exact hR.1 _ _ (by decide) | exact zrng_toInt _) dX1_fill_47 (by decide) (fun h47 => ?_) (fun h47 => ?_)
          · have hno : ¬ lst n m = m := fun h => by have := hlp.mpr h; omega
            have e1 : cc n (m + 1) = cc n m := by unfold cc; rw [fb_ct_succ]; simp [hno]
            first
              | (have h9 := k68 M40 (some (zi (likes n m))) hf ht (by rw [e1]; exact hp)
                 rw [e1] at h9
                 exact h9)
              | (have h9 := k68 (zmu (zmu M40 17 (sT n + cc n m) m) 18 (sT n + cc n m) (likes n m)) (some (zi (likes n m))) ((hf.mu (by decide)).mu (by decide)) (ht.fr (S := [17, 18]) ((zfr.rf.mu (by decide)).mu (by decide)) (by decide) (by decide)) (fun e he => by
                   rcases Nat.lt_or_ge e (sT n + cc n m) with q | q
                   · have := hp e q
                     rw [zmu_other _ _ _ _ (by decide), zmu_ne _ _ _ _ (by omega), zmu_ne _ _ _ _ (by omega), zmu_other _ _ _ _ (by decide)]
                     exact this
                   · rw [show e = sT n + cc n m by omega, zmu_other _ _ _ _ (by decide), zmu_same, zmu_same, i2, i3]
                     exact ⟨rfl, rfl⟩)
                 rw [e1] at h9
                 exact h9)
          · have hyes : lst n m = m := hlp.mp (by omega)
            have e1 : cc n (m + 1) = cc n m + 1 := by unfold cc; rw [fb_ct_succ]; simp [hyes]
            obtain ⟨i1, i2, i3⟩ := eI_ok hn (show m < cN n by omega) hyes
            unfold eI at i1 i2 i3
            refine zaload_5_0 dX1_fill_50 ?_
            refine zg_Catalog_11 rfl dX1_fill_51 ?_
            refine ziload_5_1 dX1_fill_54 ?_
            refine ziload_5_3 dX1_fill_55 ?_
            refine z_iast (sT n + cc n m) (by decide) rfl (by decide) (by decide) (by omega) (by omega) (by first | omega | exact hR.1 _ _ (by decide) | exact zrng_toInt _) dX1_fill_56 ?_
            refine z_withR (fun hR => ?_)
            refine zaload_5_0 dX1_fill_57 ?_
            refine zg_Catalog_15 rfl dX1_fill_58 ?_
            refine ziload_5_1 dX1_fill_61 ?_
            refine ziload_5_4 dX1_fill_62 ?_
            refine z_iast (sT n + cc n m) (by decide) rfl (by decide) (by decide) (by omega) (by omega) (by first | omega | exact hR.1 _ _ (by decide) | exact zrng_toInt _) dX1_fill_64 ?_
            refine z_withR (fun hR => ?_)
            refine ziinc_5_1 dX1_fill_65 ?_
            first
              | (have h9 := k68 M40 (some (zi (likes n m))) hf ht (by rw [e1]; exact hp)
                 rw [e1] at h9
                 exact h9)
              | (have h9 := k68 (zmu (zmu M40 17 (sT n + cc n m) m) 18 (sT n + cc n m) (likes n m)) (some (zi (likes n m))) ((hf.mu (by decide)).mu (by decide)) (ht.fr (S := [17, 18]) ((zfr.rf.mu (by decide)).mu (by decide)) (by decide) (by decide)) (fun e he => by
                   rcases Nat.lt_or_ge e (sT n + cc n m) with q | q
                   · have := hp e q
                     rw [zmu_other _ _ _ _ (by decide), zmu_ne _ _ _ _ (by omega), zmu_ne _ _ _ _ (by omega), zmu_other _ _ _ _ (by decide)]
                     exact this
                   · rw [show e = sT n + cc n m by omega, zmu_other _ _ _ _ (by decide), zmu_same, zmu_same, i2, i3]
                     exact ⟨rfl, rfl⟩)
                 rw [e1] at h9
                 exact h9)
  have outer : ∀ (q n : Nat) (M1 : zMem) (g g2 : Option zAV), n + q = 4 → 1 ≤ n → zfr [3, 15, 17, 18] M M1 → (∀ e, e < (if n = 4 then 3341 else sT n) → M1 17 e = eK e ∧ M1 18 e = likes (eSz e) (eK e)) → zV zd_Catalog_fill 3 4 [some (zr 4), some (zi ((if n = 4 then 3341 else sT n : Nat) : Int)), some (zi n), g, g2] [] M1 post := by
    intro q
    induction q with
    | zero =>
      intro n M1 g g2 hq h1 hf hp
      refine z_withR (fun hR => ?_)
      refine ziload_5_2 dX1_fill_4 ?_
      refine z_iconst dX1_fill_5 ?_
      refine z_icmp_gt (tgt := 87) (by first | omega | exact hR.1 _ _ (by decide) | exact zrng_toInt _) (by first | omega | exact hR.1 _ _ (by decide) | exact zrng_toInt _) dX1_fill_6 (by decide) (fun h6 => ?_) (fun h6 => ?_)
      · refine zaload_5_0 dX1_fill_87 ?_
        refine z_iconst dX1_fill_88 ?_
        refine zp_Catalog_24 rfl (by first | omega | exact hR.1 _ _ (by decide) | exact zrng_toInt _) dX1_fill_89 ?_
        refine z_withR (fun hR => ?_)
        refine z_vret rfl ?_ dX1_fill_92
        rw [hpost]
        refine ⟨(hf.up (by decide)).mu (by decide), ?_, zmu_same _ _ _ _, fun i hi => ?_⟩
        · intro e he
          rw [if_pos (by omega)] at hp
          exact hp e he
        · rw [zmu_ne _ _ _ _ hi, hf 4 (by decide)]
      · omega
    | succ q ih =>
      intro n M1 g g2 hq h1 hf hp
      have hn : okn n := by unfold okn; omega
      rw [if_neg (by omega)] at hp ⊢
      have hcl := cN_le hn
      have hsc := sT_cC hn
      have k81 : ∀ (M2 : zMem) (g g2 : Option zAV), zfr [3, 15, 17, 18] M M2 → (∀ e, e < sT n + cC n → M2 17 e = eK e ∧ M2 18 e = likes (eSz e) (eK e)) → zV zd_Catalog_fill 3 81 [some (zr 4), some (zi ((sT n + cC n : Nat) : Int)), some (zi n), g, g2] [] M2 post := by
        intro M2 g g2 hf2 hp2
        have e4 : (if n + 1 = 4 then 3341 else sT (n + 1)) = sT n + cC n := by rcases hn with rfl | rfl | rfl <;> rfl
        refine ziinc_5_2 dX1_fill_81 ?_
        refine z_goto (tgt := 4) dX1_fill_84 (by decide) ?_
        have := ih (n + 1) M2 g g2 (by omega) (by omega) hf2 (by rw [e4]; exact hp2)
        rw [e4] at this
        exact this
      refine z_withR (fun hR => ?_)
      refine ziload_5_2 dX1_fill_4 ?_
      refine z_iconst dX1_fill_5 ?_
      refine z_icmp_gt (tgt := 87) (by first | omega | exact hR.1 _ _ (by decide) | exact zrng_toInt _) (by first | omega | exact hR.1 _ _ (by decide) | exact zrng_toInt _) dX1_fill_6 (by decide) (fun h6 => ?_) (fun h6 => ?_)
      · omega
      · refine zaload_5_0 dX1_fill_9 ?_
        refine zg_Catalog_35 rfl dX1_fill_10 ?_
        refine ziload_5_2 dX1_fill_13 ?_
        refine z_iconst dX1_fill_14 ?_
        refine zc_Catalog_54 rfl dX1_fill_15 (by decide) (Nat.le_of_ble_eq_true rfl) (sp_Table_load M1 n 0 hn (by decide)) (fun r15 M15 hq15 => ?_)
        refine z_withR (fun hR => ?_)
        obtain ⟨hf3, ht3⟩ := hq15
        refine z_iconst dX1_fill_18 ?_
        refine zistore_5_3 dX1_fill_19 ?_
        have := inner n hn k81 (cN n) 0 M15 g2 (by omega) (hf.tr hf3 (fun _ h => h) (by decide)) (fun _ => ht3) (fun e he => by rw [hf3 17 (by decide), hf3 18 (by decide)]; exact hp e he)
        exact this
  refine z_iconst dX1_fill_0 ?_
  refine zistore_5_1 dX1_fill_1 ?_
  refine z_iconst dX1_fill_2 ?_
  refine zistore_5_2 dX1_fill_3 ?_
  exact outer 3 1 M _ _ (by omega) (by omega) zfr.rf (fun e he => absurd he (by show ¬ e < 0; omega))
/-- the class's page -/
def pgC (M : zMem) (T P : Nat) (LA LB : Nat → Nat) : Prop := M 2 2 = P ∧ P ≤ 6 ∧ ∀ l, l < P → (M 13 l = LA l ∧ M 14 l = LB l) ∧ LA l < T ∧ LB l < T
theorem pgC.fr {S : List Nat} {M M' : zMem} {T P : Nat} {LA LB : Nat → Nat} (h : pgC M T P LA LB) (hf : zfr S M M') (h2 : 2 ∉ S) (h13 : 13 ∉ S) (h14 : 14 ∉ S) : pgC M' T P LA LB := by
  unfold pgC at *
  rw [hf 2 h2, hf 13 h13, hf 14 h14]
  exact h
theorem sp_Catalog_tryLaws (M : zMem) (L R LA LB : Nat → Nat) (T P w n k e K : Nat) (hn : okn n) (ht : tbl M n k) (hT : tmC M L R T) (hP : pgC M T P LA LB) (hw : M 4 6 = w) (hwP : w ≤ P) (he : e < 3341) (hK : M 20 e = K) (hK2 : K < 256) :
    zSp zd_Catalog_tryLaws 2 [zr 4, zr 1, zr 2, zi e] M (fun _ M' => zfr [16, 20] M M' ∧ (∀ e', e' ≠ e → M' 20 e' = M 20 e') ∧ ∃ K' : Nat, M' 20 e = K' ∧ K' < 256 ∧ ∀ i, K'.testBit i = if w ≤ i ∧ i < P then kp L R n k (LA i) (LB i) else K.testBit i) := by
  refine zSp_in 1 [some (zr 4), some (zr 1), some (zr 2), some (zi e), none] rfl rfl (by decide +kernel) rfl ?_
  refine z_withR (fun hR => ?_)
  obtain ⟨hP1, hP6, hPl⟩ := id hP
  have loop : ∀ (q l : Nat) (M1 : zMem), l + q = P → w ≤ l → zfr [16, 20] M M1 → (∀ e', e' ≠ e → M1 20 e' = M 20 e') → (∃ K' : Nat, M1 20 e = K' ∧ K' < 256 ∧ ∀ i, K'.testBit i = if w ≤ i ∧ i < l then kp L R n k (LA i) (LB i) else K.testBit i) → zV zd_Catalog_tryLaws 2 6 [some (zr 4), some (zr 1), some (zr 2), some (zi e), some (zi l)] [] M1 (fun _ M' => zfr [16, 20] M M' ∧ (∀ e', e' ≠ e → M' 20 e' = M 20 e') ∧ ∃ K' : Nat, M' 20 e = K' ∧ K' < 256 ∧ ∀ i, K'.testBit i = if w ≤ i ∧ i < P then kp L R n k (LA i) (LB i) else K.testBit i) := by
    intro q
    induction q with
    | zero =>
      intro l M1 hq hl hf ho hk
      have e2 : M1 2 2 = P := by rw [hf 2 (by decide)]; exact hP1
      refine z_withR (fun hR => ?_)
      refine ziload_5_4 dX1_tryLaws_6 ?_
      refine zaload_5_2 dX1_tryLaws_8 ?_
      refine zg_Catalog_78 rfl dX1_tryLaws_9 ?_
      refine z_top e2 ?_
      refine z_icmp_ge (tgt := 77) (by first | omega | exact hR.1 _ _ (by decide) | exact zrng_toInt _) (by first | omega | exact hR.1 _ _ (by decide) | exact zrng_toInt _) dX1_tryLaws_12 (by decide) (fun h12 => ?_) (fun h12 => ?_)
      · refine z_vret rfl ?_ dX1_tryLaws_77
        exact ⟨hf, ho, by rw [show l = P by omega] at hk; exact hk⟩
      · omega
    | succ q ih =>
      intro l M1 hq hl hf ho hk
      obtain ⟨K1, k1, k2, k3⟩ := hk
      have e2 : M1 2 2 = P := by rw [hf 2 (by decide)]; exact hP1
      obtain ⟨⟨a1, a2⟩, a3, a4⟩ := hPl l (by omega)
      have e13 : M1 13 l = LA l := by rw [hf 13 (by decide)]; exact a1
      have e14 : M1 14 l = LB l := by rw [hf 14 (by decide)]; exact a2
      have hpow : 2 ^ l < 2 ^ 6 := Nat.pow_lt_pow_right (by decide) (by omega)
      refine z_withR (fun hR => ?_)
      refine ziload_5_4 dX1_tryLaws_6 ?_
      refine zaload_5_2 dX1_tryLaws_8 ?_
      refine zg_Catalog_78 rfl dX1_tryLaws_9 ?_
      refine z_top e2 ?_
      refine z_icmp_ge (tgt := 77) (by first | omega | exact hR.1 _ _ (by decide) | exact zrng_toInt _) (by first | omega | exact hR.1 _ _ (by decide) | exact zrng_toInt _) dX1_tryLaws_12 (by decide) (fun h12 => ?_) (fun h12 => ?_)
      · omega
      · refine zaload_5_0 dX1_tryLaws_15 ?_
        refine zg_Catalog_35 rfl dX1_tryLaws_16 ?_
        refine zaload_5_1 dX1_tryLaws_19 ?_
        refine zaload_5_2 dX1_tryLaws_20 ?_
        refine zg_Catalog_88 rfl dX1_tryLaws_21 ?_
        refine ziload_5_4 dX1_tryLaws_24 ?_
        refine z_iald _ rfl (by decide) (by decide) rfl (by omega) dX1_tryLaws_26 ?_
        refine z_top e13 ?_
        refine zaload_5_2 dX1_tryLaws_27 ?_
        refine zg_Catalog_91 rfl dX1_tryLaws_28 ?_
        refine ziload_5_4 dX1_tryLaws_31 ?_
        refine z_iald _ rfl (by decide) (by decide) rfl (by omega) dX1_tryLaws_33 ?_
        refine z_top e14 ?_
        refine zc_Catalog_94 rfl dX1_tryLaws_34 (by decide) (Nat.le_of_ble_eq_true rfl) (sp_Table_keepsLaw M1 L R T n k (LA l) (LB l) hn (ht.fr hf (by decide) (by decide)) (hT.fr hf (by decide) (by decide) (by decide) (by decide)) a3 a4) (fun r34 M34 hq34 => ?_)
        refine z_withR (fun hR => ?_)
        obtain ⟨hf2, rfl⟩ := hq34
        have hf3 : zfr [16, 20] M M34 := hf.tr hf2 (fun _ h => h) (by decide)
        have k1' : M34 20 e = K1 := by rw [hf2 20 (by decide)]; exact k1
        refine z_if_eq (tgt := 56) (by split <;> omega) dX1_tryLaws_37 (by decide) (fun h37 => ?_) (fun h37 => ?_)
        · have hno : kp L R n k (LA l) (LB l) = false := by revert h37; cases kp L R n k (LA l) (LB l) <;> simp
          refine zaload_5_0 dX1_tryLaws_56 ?_
          refine zg_Catalog_21 rfl dX1_tryLaws_57 ?_
          refine ziload_5_3 dX1_tryLaws_60 ?_
          refine z_dup2 (fun _ => rfl) (fun _ => rfl) dX1_tryLaws_61 ?_
          refine z_iald (e) rfl (by decide) (by decide) (by omega) (by omega) dX1_tryLaws_62 ?_
          refine z_top k1' ?_
          refine z_iconst dX1_tryLaws_63 ?_
          refine ziload_5_4 dX1_tryLaws_64 ?_
          refine z_ishl dX1_tryLaws_66 ?_
          refine z_top (zShl_one (by omega)) ?_
          refine z_iconst dX1_tryLaws_67 ?_
          refine z_ixor dX1_tryLaws_68 ?_
          refine z_iand dX1_tryLaws_69 ?_
          refine z_top (zAndn (by omega)) ?_
          have hlt := nAndn_le K1 (2 ^ l)
          refine z_iast (e) (by decide) rfl (by decide) (by decide) (by omega) (by omega) (by first | omega | exact hR.1 _ _ (by decide) | exact zrng_toInt _) dX1_tryLaws_70 ?_
          refine z_withR (fun hR => ?_)
          refine ziinc_5_4 dX1_tryLaws_71 ?_
          refine z_goto (tgt := 6) dX1_tryLaws_74 (by decide) ?_
          refine ih (l + 1) _ (by omega) (by omega) (hf3.mu (by decide)) (fun e' he' => ?_) ⟨_, zmu_same _ _ _ _, by omega, fun i => ?_⟩
          · rw [zmu_ne _ _ _ _ he', hf2 20 (by decide)]; exact ho e' he'
          · first
            | rw [fb_bit_set, k3 i]
            | rw [nAndn_bit, Nat.testBit_two_pow, k3 i]
            by_cases hi : i = l
            · subst hi
              rw [if_neg (show ¬ (w ≤ i ∧ i < i) by omega), if_pos (show w ≤ i ∧ i < i + 1 by omega)]
              first
              | rw [hyes]; simp
              | rw [hno]; simp
            · have h8 : ¬ l = i := fun h => hi h.symm
              by_cases h9 : w ≤ i ∧ i < l
              · rw [if_pos h9, if_pos (by omega)]; simp [hi, h8]
              · rw [if_neg h9, if_neg (by omega)]; simp [hi, h8]
        · have hyes : kp L R n k (LA l) (LB l) = true := by revert h37; cases kp L R n k (LA l) (LB l) <;> simp
          refine zaload_5_0 dX1_tryLaws_40 ?_
          refine zg_Catalog_21 rfl dX1_tryLaws_41 ?_
          refine ziload_5_3 dX1_tryLaws_44 ?_
          refine z_dup2 (fun _ => rfl) (fun _ => rfl) dX1_tryLaws_45 ?_
          refine z_iald (e) rfl (by decide) (by decide) (by omega) (by omega) dX1_tryLaws_46 ?_
          refine z_top k1' ?_
          refine z_iconst dX1_tryLaws_47 ?_
          refine ziload_5_4 dX1_tryLaws_48 ?_
          refine z_ishl dX1_tryLaws_50 ?_
          refine z_top (zShl_one (by omega)) ?_
          refine z_ior dX1_tryLaws_51 ?_
          refine z_top (zOr_nat (by omega) (by omega)) ?_
          have hlt : K1 ||| 2 ^ l < 256 := Nat.or_lt_two_pow (n := 8) k2 (by omega)
          refine z_iast (e) (by decide) rfl (by decide) (by decide) (by omega) (by omega) (by first | omega | exact hR.1 _ _ (by decide) | exact zrng_toInt _) dX1_tryLaws_52 ?_
          refine z_withR (fun hR => ?_)
          refine z_goto (tgt := 71) dX1_tryLaws_53 (by decide) ?_
          refine ziinc_5_4 dX1_tryLaws_71 ?_
          refine z_goto (tgt := 6) dX1_tryLaws_74 (by decide) ?_
          refine ih (l + 1) _ (by omega) (by omega) (hf3.mu (by decide)) (fun e' he' => ?_) ⟨_, zmu_same _ _ _ _, by omega, fun i => ?_⟩
          · rw [zmu_ne _ _ _ _ he', hf2 20 (by decide)]; exact ho e' he'
          · first
            | rw [fb_bit_set, k3 i]
            | rw [nAndn_bit, Nat.testBit_two_pow, k3 i]
            by_cases hi : i = l
            · subst hi
              rw [if_neg (show ¬ (w ≤ i ∧ i < i) by omega), if_pos (show w ≤ i ∧ i < i + 1 by omega)]
              first
              | rw [hyes]; simp
              | rw [hno]; simp
            · have h8 : ¬ l = i := fun h => hi h.symm
              by_cases h9 : w ≤ i ∧ i < l
              · rw [if_pos h9, if_pos (by omega)]; simp [hi, h8]
              · rw [if_neg h9, if_neg (by omega)]; simp [hi, h8]
  refine zaload_5_0 dX1_tryLaws_0 ?_
  refine zg_Catalog_31 rfl dX1_tryLaws_1 ?_
  refine z_top hw ?_
  refine zistore_5_4 dX1_tryLaws_4 ?_
  exact loop (P - w) w M (by omega) (Nat.le_refl _) zfr.rf (fun _ _ => rfl) ⟨K, hK, hK2, fun i => by rw [if_neg (by omega)]⟩
