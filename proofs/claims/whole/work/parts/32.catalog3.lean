theorem sp_Catalog_keepPage (M : zMem) (Kf : Nat → Nat) (s ls : Nat) (hs : s < 2) (hK : kepF M Kf) (hl : ls < 64) : zSp zd_Catalog_keepPage 1 [zr 4, zi s, zi ls] M (fun _ M' => zfr [20] M M' ∧ ∃ Kf' : Nat → Nat, kepF M' Kf' ∧ ∀ e, e < 3341 → ∀ i, (Kf' e).testBit i = if i = 6 + s then kq Kf ls e else (Kf e).testBit i) := by
  refine zSp_in 1 [some (zr 4), some (zi s), some (zi ls), none] rfl rfl (by decide +kernel) rfl ?_
  refine z_withR (fun hR => ?_)
  obtain ⟨post, hpost⟩ : ∃ post : Int → zMem → Prop, post = (fun (_ : Int) M' => zfr [20] M M' ∧ ∃ Kf' : Nat → Nat, kepF M' Kf' ∧ ∀ e, e < 3341 → ∀ i, (Kf' e).testBit i = if i = 6 + s then kq Kf ls e else (Kf e).testBit i) := ⟨_, rfl⟩
  rw [← hpost]
  have hpow : 2 ^ (6 + s) < 2 ^ 8 := Nat.pow_lt_pow_right (by decide) (by omega)
  have loop : ∀ (q e : Nat) (M1 : zMem), e + q = 3341 → zfr [20] M M1 → (∃ Kf' : Nat → Nat, kepF M1 Kf' ∧ ∀ e', e' < 3341 → ∀ i, (Kf' e').testBit i = if e' < e ∧ i = 6 + s then kq Kf ls e' else (Kf e').testBit i) → zV zd_Catalog_keepPage 1 2 [some (zr 4), some (zi s), some (zi ls), some (zi e)] [] M1 post := by
    intro q
    induction q with
    | zero =>
      intro e M1 hq hf ⟨Kf', k1, k2⟩
      refine z_withR (fun hR => ?_)
      refine ziload_4_3 dX1_keepPage_2 ?_
      refine z_sipush dX1_keepPage_3 (by decide) ?_
      refine z_icmp_ge (tgt := 55) (by first | omega | exact hR.1 _ _ (by decide) | exact zrng_toInt _) (by first | omega | exact hR.1 _ _ (by decide) | exact zrng_toInt _) dX1_keepPage_6 (by decide) (fun h6 => ?_) (fun h6 => ?_)
      · refine z_vret rfl ?_ dX1_keepPage_55
        rw [hpost]
        refine ⟨hf, Kf', k1, fun e' he' i => ?_⟩
        rw [k2 e' he' i]
        by_cases h9 : i = 6 + s
        · rw [if_pos h9, if_pos (by omega)]
        · rw [if_neg h9, if_neg (by omega)]
      · omega
    | succ q ih =>
      intro e M1 hq hf ⟨Kf', k1, k2⟩
      have he : e < 3341 := by omega
      obtain ⟨j1, j2⟩ := k1 e he
      have hsame : Kf' e = Kf e := by
        apply Nat.eq_of_testBit_eq
        intro i
        rw [k2 e he i, if_neg (by omega)]
      have step : ∀ (M2 : zMem) (K2 : Nat), zfr [20] M M2 → (∀ e', e' ≠ e → M2 20 e' = M1 20 e') → M2 20 e = K2 → K2 < 256 → (∀ i, K2.testBit i = if i = 6 + s then kq Kf ls e else (Kf' e).testBit i) → zV zd_Catalog_keepPage 1 49 [some (zr 4), some (zi s), some (zi ls), some (zi e)] [] M2 post := by
        intro M2 K2 hf2 ho h1 h2 h3
        refine z_withR (fun hR => ?_)
        refine ziinc_4_3 dX1_keepPage_49 ?_
        refine z_goto (tgt := 2) dX1_keepPage_52 (by decide) ?_
        refine ih (e + 1) M2 (by omega) hf2 ⟨fun e' => if e' = e then K2 else Kf' e', fun e' he' => ?_, fun e' he' i => ?_⟩
        · by_cases h9 : e' = e
          · subst h9; simp only [if_pos]; exact ⟨h1, h2⟩
          · simp only [if_neg h9]; rw [ho e' h9]; exact k1 e' he'
        · by_cases h9 : e' = e
          · subst h9
            simp only [if_pos]
            rw [h3 i]
            by_cases h8 : i = 6 + s
            · rw [if_pos h8, if_pos (by omega)]
            · rw [if_neg h8, if_neg (by omega), hsame]
          · simp only [if_neg h9]
            rw [k2 e' he' i]
            by_cases h8 : e' < e ∧ i = 6 + s
            · rw [if_pos h8, if_pos (by omega)]
            · rw [if_neg h8, if_neg (by omega)]
      refine z_withR (fun hR => ?_)
      refine ziload_4_3 dX1_keepPage_2 ?_
      refine z_sipush dX1_keepPage_3 (by decide) ?_
      refine z_icmp_ge (tgt := 55) (by first | omega | exact hR.1 _ _ (by decide) | exact zrng_toInt _) (by first | omega | exact hR.1 _ _ (by decide) | exact zrng_toInt _) dX1_keepPage_6 (by decide) (fun h6 => ?_) (fun h6 => ?_)
      · omega
      · refine zaload_4_0 dX1_keepPage_9 ?_
        refine ziload_4_3 dX1_keepPage_10 ?_
        refine ziload_4_2 dX1_keepPage_11 ?_
        refine zc_Catalog_98 rfl dX1_keepPage_12 (by decide) (Nat.le_of_ble_eq_true rfl) (sp_Catalog_keepsAll M1 e (Kf' e) ls he j1 j2 (by omega)) (fun r12 M12 hq12 => ?_)
        refine z_withR (fun hR => ?_)
        obtain ⟨rfl, rfl⟩ := hq12
        rw [kq_if, show kq Kf' ls e = kq Kf ls e by unfold kq; rw [hsame]]
        refine z_if_eq (tgt := 34) (by split <;> omega) dX1_keepPage_15 (by decide) (fun h15 => ?_) (fun h15 => ?_)
        · have hk : kq Kf ls e = false := by revert h15; cases kq Kf ls e <;> simp
          refine zaload_4_0 dX1_keepPage_34 ?_
          refine zg_Catalog_21 rfl dX1_keepPage_35 ?_
          refine ziload_4_3 dX1_keepPage_38 ?_
          refine z_dup2 (fun _ => rfl) (fun _ => rfl) dX1_keepPage_39 ?_
          refine z_iald (e) rfl (by decide) (by decide) (by omega) (by omega) dX1_keepPage_40 ?_
          refine z_top j1 ?_
          refine ziload_4_1 dX1_keepPage_41 ?_
          refine zc_Catalog_39 rfl dX1_keepPage_42 (by decide) (Nat.le_of_ble_eq_true rfl) (sp_Catalog_slotBit _ s hs) (fun r42 M42 hq42 => ?_)
          refine z_withR (fun hR => ?_)
          obtain ⟨rfl, rfl⟩ := hq42
          refine z_iconst dX1_keepPage_45 ?_
          refine z_ixor dX1_keepPage_46 ?_
          refine z_iand dX1_keepPage_47 ?_
          refine z_top (zAndn (by omega)) ?_
          have hlt := nAndn_le (Kf' e) (2 ^ (6 + s))
          refine z_iast (e) (by decide) rfl (by decide) (by decide) (by omega) (by omega) (by first | omega | exact hR.1 _ _ (by decide) | exact zrng_toInt _) dX1_keepPage_48 ?_
          refine z_withR (fun hR => ?_)
          refine step _ _ (hf.mu (by decide)) (fun e' he' => zmu_ne _ _ _ _ he') (zmu_same _ _ _ _) (by omega) (fun i => ?_)
          first
          | rw [fb_bit_set, hk]
          | rw [nAndn_bit, Nat.testBit_two_pow, hk]
          by_cases h8 : i = 6 + s
          · subst h8; simp
          · have h7 : ¬ 6 + s = i := fun h => h8 h.symm
            rw [if_neg h8]; simp [h8, h7]
        · have hk : kq Kf ls e = true := by revert h15; cases kq Kf ls e <;> simp
          refine zaload_4_0 dX1_keepPage_18 ?_
          refine zg_Catalog_21 rfl dX1_keepPage_19 ?_
          refine ziload_4_3 dX1_keepPage_22 ?_
          refine z_dup2 (fun _ => rfl) (fun _ => rfl) dX1_keepPage_23 ?_
          refine z_iald (e) rfl (by decide) (by decide) (by omega) (by omega) dX1_keepPage_24 ?_
          refine z_top j1 ?_
          refine ziload_4_1 dX1_keepPage_25 ?_
          refine zc_Catalog_39 rfl dX1_keepPage_26 (by decide) (Nat.le_of_ble_eq_true rfl) (sp_Catalog_slotBit _ s hs) (fun r26 M26 hq26 => ?_)
          refine z_withR (fun hR => ?_)
          obtain ⟨rfl, rfl⟩ := hq26
          refine z_ior dX1_keepPage_29 ?_
          refine z_top (zOr_nat (by omega) (by omega)) ?_
          have hlt : Kf' e ||| 2 ^ (6 + s) < 256 := Nat.or_lt_two_pow (n := 8) j2 (by omega)
          refine z_iast (e) (by decide) rfl (by decide) (by decide) (by omega) (by omega) (by first | omega | exact hR.1 _ _ (by decide) | exact zrng_toInt _) dX1_keepPage_30 ?_
          refine z_withR (fun hR => ?_)
          refine z_goto (tgt := 49) dX1_keepPage_31 (by decide) ?_
          refine step _ _ (hf.mu (by decide)) (fun e' he' => zmu_ne _ _ _ _ he') (zmu_same _ _ _ _) (by omega) (fun i => ?_)
          first
          | rw [fb_bit_set, hk]
          | rw [nAndn_bit, Nat.testBit_two_pow, hk]
          by_cases h8 : i = 6 + s
          · subst h8; simp
          · have h7 : ¬ 6 + s = i := fun h => h8 h.symm
            rw [if_neg h8]; simp [h8, h7]
  refine z_iconst dX1_keepPage_0 ?_
  refine zistore_4_3 dX1_keepPage_1 ?_
  exact loop 3341 0 M (by omega) zfr.rf ⟨Kf, hK, fun e' he' i => by rw [if_neg (by omega)]⟩
theorem sp_Catalog_entryOf (M : zMem) (n e : Nat) (he : e < 3341) (hn : eSz e = n) (hc : catF M) : zSp zd_Catalog_entryOf 0 [zr 4, zi n, zi (eK e)] M (fun r M' => M' = M ∧ r = e) := by
  refine zSp_in 4 [some (zr 4), some (zi n), some (zi (eK e)), none, none, none, none] rfl rfl (by decide +kernel) rfl ?_
  refine z_withR (fun hR => ?_)
  have hok : okn n := by rw [← hn]; exact okn_eSz e
  obtain ⟨z1, z2⟩ := zro_sT hok
  have hn3 := hok.le
  have hsc := sT_cC hok
  obtain ⟨s1, s2⟩ := eSz_at he
  rw [hn] at s1 s2
  have hek := eK_lt he
  have sz : ∀ m, sT n ≤ m → m < sT n + cC n → eSz m = n := by
    intro m h1 h2
    have := (eSz_of hok (show m - sT n < cC n by omega)).1
    rwa [show sT n + (m - sT n) = m by omega] at this
  have loop : ∀ (q h lo hi : Nat) (g : Option zAV), h + q = 12 → sT n ≤ lo → lo ≤ e → e ≤ hi → hi < sT n + cC n → hi - lo < 2 ^ q → zV zd_Catalog_entryOf 0 20 [some (zr 4), some (zi n), some (zi (eK e)), some (zi lo), some (zi hi), some (zi h), g] [] M (fun r M' => M' = M ∧ r = e) := by
    intro q
    induction q with
    | zero =>
      intro h lo hi g h1 h2 h3 h4 h5 h6
      refine ziload_7_5 dX1_entryOf_20 ?_
      refine z_bipush dX1_entryOf_22 (by decide) ?_
      refine z_icmp_ge (tgt := 70) (by first | omega | exact hR.1 _ _ (by decide) | exact zrng_toInt _) (by first | omega | exact hR.1 _ _ (by decide) | exact zrng_toInt _) dX1_entryOf_24 (by decide) (fun h24 => ?_) (fun h24 => ?_)
      · omega
      · refine ziload_7_3 dX1_entryOf_27 ?_
        refine ziload_7_4 dX1_entryOf_28 ?_
        refine z_icmp_ge (tgt := 70) (by first | omega | exact hR.1 _ _ (by decide) | exact zrng_toInt _) (by first | omega | exact hR.1 _ _ (by decide) | exact zrng_toInt _) dX1_entryOf_30 (by decide) (fun h30 => ?_) (fun h30 => ?_)
        · refine ziload_7_3 dX1_entryOf_70 ?_
          refine z_iret rfl ?_ dX1_entryOf_71
          exact ⟨rfl, by omega⟩
        · omega
    | succ q ih =>
      intro h lo hi g h1 h2 h3 h4 h5 h6
      rw [Nat.pow_succ] at h6
      have hm1 : lo ≤ (lo + hi) / 2 := by omega
      have hm2 : (lo + hi) / 2 ≤ hi := by omega
      have hm3 : (lo + hi) / 2 < 3341 := by omega
      have hmk := eK_lt hm3
      have hcm := (hc _ hm3).1
      have hsm := sz ((lo + hi) / 2) (by omega) (by omega)
      have up : eK ((lo + hi) / 2) < eK e → (lo + hi) / 2 < e := fun hlt => by
        rcases Nat.lt_or_ge ((lo + hi) / 2) e with q | q
        · exact q
        · rcases Nat.lt_or_ge e ((lo + hi) / 2) with q2 | q2
          · have := eK_mono hm3 q2 (by rw [hsm, hn]); omega
          · rw [show (lo + hi) / 2 = e by omega] at hlt; omega
      have dn : ¬ eK ((lo + hi) / 2) < eK e → e ≤ (lo + hi) / 2 := fun hge => by
        rcases Nat.lt_or_ge ((lo + hi) / 2) e with q | q
        · have := eK_mono he q (by rw [hsm, hn]); omega
        · exact q
      generalize hmid : (lo + hi) / 2 = m at hm1 hm2 hm3 hmk hcm up dn
      have hmm : ((lo : Int) + hi) / 2 = m := by rw [← hmid]; omega
      refine ziload_7_5 dX1_entryOf_20 ?_
      refine z_bipush dX1_entryOf_22 (by decide) ?_
      refine z_icmp_ge (tgt := 70) (by first | omega | exact hR.1 _ _ (by decide) | exact zrng_toInt _) (by first | omega | exact hR.1 _ _ (by decide) | exact zrng_toInt _) dX1_entryOf_24 (by decide) (fun h24 => ?_) (fun h24 => ?_)
      · omega
      · refine ziload_7_3 dX1_entryOf_27 ?_
        refine ziload_7_4 dX1_entryOf_28 ?_
        refine z_icmp_ge (tgt := 70) (by first | omega | exact hR.1 _ _ (by decide) | exact zrng_toInt _) (by first | omega | exact hR.1 _ _ (by decide) | exact zrng_toInt _) dX1_entryOf_30 (by decide) (fun h30 => ?_) (fun h30 => ?_)
        · refine ziload_7_3 dX1_entryOf_70 ?_
          refine z_iret rfl ?_ dX1_entryOf_71
          exact ⟨rfl, by omega⟩
        · refine ziload_7_3 dX1_entryOf_33 ?_
          refine ziload_7_4 dX1_entryOf_34 ?_
          refine z_iadd dX1_entryOf_36 ?_
          refine z_iconst dX1_entryOf_37 ?_
          refine z_idiv (by omega) (by omega) dX1_entryOf_38 ?_
          refine z_top hmm ?_
          refine zistore_7_6 dX1_entryOf_39 ?_
          refine zaload_7_0 dX1_entryOf_41 ?_
          refine zg_Catalog_11 rfl dX1_entryOf_42 ?_
          refine ziload_7_6 dX1_entryOf_45 ?_
          refine z_iald (m) rfl (by decide) (by decide) (by omega) (by omega) dX1_entryOf_47 ?_
          refine z_top hcm ?_
          refine ziload_7_2 dX1_entryOf_48 ?_
          refine z_icmp_ge (tgt := 60) (by first | omega | exact hR.1 _ _ (by decide) | exact zrng_toInt _) (by first | omega | exact hR.1 _ _ (by decide) | exact zrng_toInt _) dX1_entryOf_49 (by decide) (fun h49 => ?_) (fun h49 => ?_)
          · refine ziload_7_6 dX1_entryOf_60 ?_
            refine zistore_7_4 dX1_entryOf_62 ?_
            refine ziinc_7_5 dX1_entryOf_64 ?_
            refine z_goto (tgt := 20) dX1_entryOf_67 (by decide) ?_
            first
              | exact ih (h + 1) (m + 1) hi _ (by omega) (by omega) (by have := up (by omega); omega) h4 h5 (by omega)
              | exact ih (h + 1) lo m _ (by omega) h2 h3 (dn (by omega)) (by omega) (by omega)
          · refine ziload_7_6 dX1_entryOf_52 ?_
            refine z_iconst dX1_entryOf_54 ?_
            refine z_iadd dX1_entryOf_55 ?_
            refine zistore_7_3 dX1_entryOf_56 ?_
            refine z_goto (tgt := 64) dX1_entryOf_57 (by decide) ?_
            refine ziinc_7_5 dX1_entryOf_64 ?_
            refine z_goto (tgt := 20) dX1_entryOf_67 (by decide) ?_
            first
              | exact ih (h + 1) (m + 1) hi _ (by omega) (by omega) (by have := up (by omega); omega) h4 h5 (by omega)
              | exact ih (h + 1) lo m _ (by omega) h2 h3 (dn (by omega)) (by omega) (by omega)
  have hc3 : cC n ≤ 3330 := by rcases hok with h | h | h <;> (subst h; decide)
  refine zg_Catalog_51 rfl dX1_entryOf_0 ?_
  refine ziload_7_1 dX1_entryOf_3 ?_
  refine z_tald74 _ rfl (by omega) dX1_entryOf_4 ?_
  refine z_top z1 ?_
  refine zistore_7_3 dX1_entryOf_5 ?_
  refine zg_Catalog_51 rfl dX1_entryOf_6 ?_
  refine ziload_7_1 dX1_entryOf_9 ?_
  refine z_iconst dX1_entryOf_10 ?_
  refine z_iadd dX1_entryOf_11 ?_
  refine z_tald74 (n + 1) (by omega) (by omega) dX1_entryOf_12 ?_
  refine z_top z2 ?_
  refine z_iconst dX1_entryOf_13 ?_
  refine z_isub dX1_entryOf_14 ?_
  refine z_top (y := ((sT n + cC n - 1 : Nat) : Int)) (by omega) ?_
  refine zistore_7_4 dX1_entryOf_15 ?_
  refine z_iconst dX1_entryOf_17 ?_
  refine zistore_7_5 dX1_entryOf_18 ?_
  exact loop 12 0 (sT n) (sT n + cC n - 1) _ (by omega) (Nat.le_refl _) s1 (by omega) (by omega) (by omega)
/-- the entry of an entry turned about -/
noncomputable def tn (e : Nat) : Nat := eI (eSz e) (lst (eSz e) (tau (eSz e) (eK e)))
theorem tn_ok {e : Nat} : tn e < 3341 ∧ eSz (tn e) = eSz e ∧ eK (tn e) = lst (eSz e) (tau (eSz e) (eK e)) := by
  have hn := okn_eSz e
  refine eI_ok hn ?_ (lst_lst hn)
  rw [cN_pow hn]; exact lst_lt hn
def trnF (M : zMem) : Prop := ∀ e, e < 3341 → M 19 e = tn e
theorem sp_Catalog_learnTurns (M : zMem) (hc : catF M) (ht : M 4 5 = 0 ∨ (M 4 5 = 1 ∧ trnF M)) : zSp zd_Catalog_learnTurns 3 [zr 4] M (fun _ M' => zfr [3, 4, 15, 19] M M' ∧ trnF M' ∧ M' 4 5 = 1 ∧ ∀ i, i ≠ 5 → M' 4 i = M 4 i) := by
  refine zSp_in 2 [some (zr 4), none, none] rfl rfl (by decide +kernel) rfl ?_
  refine z_withR (fun hR => ?_)
  have loop : ∀ (q e : Nat) (M1 : zMem) (g : Option zAV), e + q = 3341 → zfr [3, 15, 19] M M1 → (∀ e', e' < e → M1 19 e' = tn e') → zV zd_Catalog_learnTurns 3 10 [some (zr 4), some (zi e), g] [] M1 (fun _ M' => zfr [3, 4, 15, 19] M M' ∧ trnF M' ∧ M' 4 5 = 1 ∧ ∀ i, i ≠ 5 → M' 4 i = M 4 i) := by
    intro q
    induction q with
    | zero =>
      intro e M1 g hq hf h19
      refine z_withR (fun hR => ?_)
      refine ziload_3_1 dX1_learnTurns_10 ?_
      refine z_sipush dX1_learnTurns_11 (by decide) ?_
      refine z_icmp_ge (tgt := 68) (by first | omega | exact hR.1 _ _ (by decide) | exact zrng_toInt _) (by first | omega | exact hR.1 _ _ (by decide) | exact zrng_toInt _) dX1_learnTurns_14 (by decide) (fun h14 => ?_) (fun h14 => ?_)
      · refine zaload_3_0 dX1_learnTurns_68 ?_
        refine z_iconst dX1_learnTurns_69 ?_
        refine zp_Catalog_28 rfl (by first | omega | exact hR.1 _ _ (by decide) | exact zrng_toInt _) dX1_learnTurns_70 ?_
        refine z_withR (fun hR => ?_)
        refine z_vret rfl ?_ dX1_learnTurns_73
        refine ⟨(hf.up (by decide)).mu (by decide), fun e' he' => h19 e' (by omega), zmu_same _ _ _ _, fun i hi => ?_⟩
        rw [zmu_ne _ _ _ _ hi, hf 4 (by decide)]
      · omega
    | succ q ih =>
      intro e M1 g hq hf h19
      have he : e < 3341 := by omega
      have hek := eK_lt he
      have hn := okn_eSz e
      obtain ⟨t1, t2, t3⟩ := tn_ok (e := e)
      have hcm : catF M1 := hc.fr hf (by decide) (by decide)
      refine z_withR (fun hR => ?_)
      refine ziload_3_1 dX1_learnTurns_10 ?_
      refine z_sipush dX1_learnTurns_11 (by decide) ?_
      refine z_icmp_ge (tgt := 68) (by first | omega | exact hR.1 _ _ (by decide) | exact zrng_toInt _) (by first | omega | exact hR.1 _ _ (by decide) | exact zrng_toInt _) dX1_learnTurns_14 (by decide) (fun h14 => ?_) (fun h14 => ?_)
      · omega
      · refine zaload_3_0 dX1_learnTurns_17 ?_
        refine ziload_3_1 dX1_learnTurns_18 ?_
        refine zc_Catalog_81 rfl dX1_learnTurns_19 (by decide) (Nat.le_of_ble_eq_true rfl) (sp_Catalog_sizeOf M1 e he) (fun r19 M19 hq19 => ?_)
        refine z_withR (fun hR => ?_)
        obtain ⟨rfl, rfl⟩ := hq19
        refine zistore_3_2 dX1_learnTurns_22 ?_
        refine zaload_3_0 dX1_learnTurns_23 ?_
        refine zg_Catalog_35 rfl dX1_learnTurns_24 ?_
        refine ziload_3_2 dX1_learnTurns_27 ?_
        refine zaload_3_0 dX1_learnTurns_28 ?_
        refine zg_Catalog_11 rfl dX1_learnTurns_29 ?_
        refine ziload_3_1 dX1_learnTurns_32 ?_
        refine z_iald (e) rfl (by decide) (by decide) (by omega) (by omega) dX1_learnTurns_33 ?_
        refine z_top (hcm e he).1 ?_
        refine zc_Catalog_54 rfl dX1_learnTurns_34 (by decide) (Nat.le_of_ble_eq_true rfl) (sp_Table_load M19 (eSz e) (eK e) hn (by omega)) (fun r34 M34 hq34 => ?_)
        refine z_withR (fun hR => ?_)
        obtain ⟨hf2, ht2⟩ := hq34
        refine zaload_3_0 dX1_learnTurns_37 ?_
        refine zg_Catalog_35 rfl dX1_learnTurns_38 ?_
        refine zc_Catalog_105 rfl dX1_learnTurns_41 (by decide) (Nat.le_of_ble_eq_true rfl) (sp_Table_turnAbout M34 (eSz e) (eK e) hn ht2) (fun r41 M41 hq41 => ?_)
        refine z_withR (fun hR => ?_)
        obtain ⟨hf3, ht3⟩ := hq41
        refine zaload_3_0 dX1_learnTurns_44 ?_
        refine zg_Catalog_18 rfl dX1_learnTurns_45 ?_
        refine ziload_3_1 dX1_learnTurns_48 ?_
        refine zaload_3_0 dX1_learnTurns_49 ?_
        refine ziload_3_2 dX1_learnTurns_50 ?_
        refine zaload_3_0 dX1_learnTurns_51 ?_
        refine zg_Catalog_35 rfl dX1_learnTurns_52 ?_
        refine zc_Catalog_108 rfl dX1_learnTurns_55 (by decide) (Nat.le_of_ble_eq_true rfl) (sp_Table_leastNumber M41 (eSz e) _ hn ht3) (fun r55 M55 hq55 => ?_)
        refine z_withR (fun hR => ?_)
        obtain ⟨rfl, rfl⟩ := hq55
        rw [← t3]
        refine zc_Catalog_111 rfl dX1_learnTurns_58 (by decide) (Nat.le_of_ble_eq_true rfl) (sp_Catalog_entryOf M55 (eSz e) (tn e) t1 t2 ((hcm.fr hf2 (by decide) (by decide)).fr hf3 (by decide) (by decide))) (fun r58 M58 hq58 => ?_)
        refine z_withR (fun hR => ?_)
        obtain ⟨rfl, rfl⟩ := hq58
        refine z_iast (e) (by decide) rfl (by decide) (by decide) (by omega) (by omega) (by first | omega | exact hR.1 _ _ (by decide) | exact zrng_toInt _) dX1_learnTurns_61 ?_
        refine z_withR (fun hR => ?_)
        refine ziinc_3_1 dX1_learnTurns_62 ?_
        refine z_goto (tgt := 10) dX1_learnTurns_65 (by decide) ?_
        refine ih (e + 1) _ _ (by omega) (((hf.tr hf2 (fun _ h => h) (by decide)).tr hf3 (fun _ h => h) (by decide)).mu (by decide)) (fun e' he' => ?_)
        rcases Nat.lt_or_ge e' e with q | q
        · rw [zmu_ne _ _ _ _ (by omega), hf3 19 (by decide), hf2 19 (by decide)]; exact h19 e' q
        · rw [show e' = e by omega, zmu_same]
  refine zaload_3_0 dX1_learnTurns_0 ?_
  refine zg_Catalog_28 rfl dX1_learnTurns_1 ?_
  refine z_if_eq (tgt := 8) (by first | omega | exact hR.1 _ _ (by decide) | exact zrng_toInt _) dX1_learnTurns_4 (by decide) (fun h4 => ?_) (fun h4 => ?_)
  · refine z_iconst dX1_learnTurns_8 ?_
    refine zistore_3_1 dX1_learnTurns_9 ?_
    exact loop 3341 0 M _ (by omega) zfr.rf (fun e' h => by omega)
  · have h5 := ht.resolve_left h4
    refine z_vret rfl ?_ dX1_learnTurns_7
    exact ⟨zfr.rf, h5.2, h5.1, fun _ _ => rfl⟩
theorem sp_Catalog_isEven (M : zMem) (Kf : Nat → Nat) (ls : Nat) (hc : catF M) (hK : kepF M Kf) (hl : ls < 256) (ht : M 4 5 = 0 ∨ (M 4 5 = 1 ∧ trnF M)) : zSp zd_Catalog_isEven 4 [zr 4, zi ls] M (fun r M' => (zfr [3, 4, 15, 19] M M' ∧ trnF M' ∧ M' 4 5 = 1 ∧ ∀ i, i ≠ 5 → M' 4 i = M 4 i) ∧ ((r = 1 ∧ ∀ e, e < 3341 → kq Kf ls e = true → kq Kf ls (tn e) = true) ∨ (r = 0 ∧ ∃ e, e < 3341 ∧ kq Kf ls e = true ∧ kq Kf ls (tn e) = false))) := by
  refine zSp_in 1 [some (zr 4), some (zi ls), none] rfl rfl (by decide +kernel) rfl ?_
  refine z_withR (fun hR => ?_)
  have loop : ∀ (M1 : zMem), zfr [3, 4, 15, 19] M M1 → trnF M1 → M1 4 5 = 1 → (∀ i, i ≠ 5 → M1 4 i = M 4 i) → ∀ (q e : Nat), e + q = 3341 → (∀ e', e' < e → kq Kf ls e' = true → kq Kf ls (tn e') = true) → zV zd_Catalog_isEven 4 6 [some (zr 4), some (zi ls), some (zi e)] [] M1 (fun r M' => (zfr [3, 4, 15, 19] M M' ∧ trnF M' ∧ M' 4 5 = 1 ∧ ∀ i, i ≠ 5 → M' 4 i = M 4 i) ∧ ((r = 1 ∧ ∀ e, e < 3341 → kq Kf ls e = true → kq Kf ls (tn e) = true) ∨ (r = 0 ∧ ∃ e, e < 3341 ∧ kq Kf ls e = true ∧ kq Kf ls (tn e) = false))) := by
    intro M1 hf htr h45 h4i q
    have hK1 : kepF M1 Kf := hK.fr hf (by decide)
    induction q with
    | zero =>
      intro e hq hno
      refine z_withR (fun hR => ?_)
      refine ziload_3_2 dX1_isEven_6 ?_
      refine z_sipush dX1_isEven_7 (by decide) ?_
      refine z_icmp_ge (tgt := 44) (by first | omega | exact hR.1 _ _ (by decide) | exact zrng_toInt _) (by first | omega | exact hR.1 _ _ (by decide) | exact zrng_toInt _) dX1_isEven_10 (by decide) (fun h10 => ?_) (fun h10 => ?_)
      · refine z_iconst dX1_isEven_44 ?_
        refine z_zret rfl (by omega) ?_ dX1_isEven_45
        exact ⟨⟨hf, htr, h45, h4i⟩, Or.inl ⟨rfl, fun e' h => hno e' (by omega)⟩⟩
      · omega
    | succ q ih =>
      intro e hq hno
      have he : e < 3341 := by omega
      have t1 := (tn_ok (e := e)).1
      refine z_withR (fun hR => ?_)
      refine ziload_3_2 dX1_isEven_6 ?_
      refine z_sipush dX1_isEven_7 (by decide) ?_
      refine z_icmp_ge (tgt := 44) (by first | omega | exact hR.1 _ _ (by decide) | exact zrng_toInt _) (by first | omega | exact hR.1 _ _ (by decide) | exact zrng_toInt _) dX1_isEven_10 (by decide) (fun h10 => ?_) (fun h10 => ?_)
      · omega
      · refine zaload_3_0 dX1_isEven_13 ?_
        refine ziload_3_2 dX1_isEven_14 ?_
        refine ziload_3_1 dX1_isEven_15 ?_
        refine zc_Catalog_98 rfl dX1_isEven_16 (by decide) (Nat.le_of_ble_eq_true rfl) (sp_Catalog_keepsAll M1 e (Kf e) ls he (hK1 _ he).1 (hK1 _ he).2 hl) (fun r16 M16 hq16 => ?_)
        refine z_withR (fun hR => ?_)
        obtain ⟨rfl, rfl⟩ := hq16
        rw [kq_if]
        refine z_if_eq (tgt := 38) (by split <;> omega) dX1_isEven_19 (by decide) (fun h19 => ?_) (fun h19 => ?_)
        · have hk : kq Kf ls e = false := by revert h19; cases kq Kf ls e <;> simp
          refine ziinc_3_2 dX1_isEven_38 ?_
          refine z_goto (tgt := 6) dX1_isEven_41 (by decide) ?_
          refine ih (e + 1) (by omega) (fun e' h1 h2 => ?_)
          rcases Nat.lt_or_ge e' e with q | q
          · exact hno e' q h2
          · rw [show e' = e by omega] at h2 ⊢
            first
            | exact hk2
            | (rw [hk] at h2; cases h2)
        · have hk : kq Kf ls e = true := by revert h19; cases kq Kf ls e <;> simp
          refine zaload_3_0 dX1_isEven_22 ?_
          refine zaload_3_0 dX1_isEven_23 ?_
          refine zg_Catalog_18 rfl dX1_isEven_24 ?_
          refine ziload_3_2 dX1_isEven_27 ?_
          refine z_iald (e) rfl (by decide) (by decide) (by omega) (by omega) dX1_isEven_28 ?_
          refine z_top (htr e he) ?_
          refine ziload_3_1 dX1_isEven_29 ?_
          refine zc_Catalog_98 rfl dX1_isEven_30 (by decide) (Nat.le_of_ble_eq_true rfl) (sp_Catalog_keepsAll M16 (tn e) (Kf (tn e)) ls t1 (hK1 _ t1).1 (hK1 _ t1).2 hl) (fun r30 M30 hq30 => ?_)
          refine z_withR (fun hR => ?_)
          obtain ⟨rfl, rfl⟩ := hq30
          rw [kq_if]
          refine z_if_ne (tgt := 38) (by split <;> omega) dX1_isEven_33 (by decide) (fun h33 => ?_) (fun h33 => ?_)
          · have hk2 : kq Kf ls (tn e) = true := by revert h33; cases kq Kf ls (tn e) <;> simp
            refine ziinc_3_2 dX1_isEven_38 ?_
            refine z_goto (tgt := 6) dX1_isEven_41 (by decide) ?_
            refine ih (e + 1) (by omega) (fun e' h1 h2 => ?_)
            rcases Nat.lt_or_ge e' e with q | q
            · exact hno e' q h2
            · rw [show e' = e by omega] at h2 ⊢
              first
              | exact hk2
              | (rw [hk] at h2; cases h2)
          · have hk2 : kq Kf ls (tn e) = false := by revert h33; cases kq Kf ls (tn e) <;> simp
            refine z_iconst dX1_isEven_36 ?_
            refine z_zret rfl (by omega) ?_ dX1_isEven_37
            exact ⟨⟨hf, htr, h45, h4i⟩, Or.inr ⟨rfl, e, he, hk, hk2⟩⟩
  refine zaload_3_0 dX1_isEven_0 ?_
  refine zc_Catalog_102 rfl dX1_isEven_1 (by decide) (Nat.le_of_ble_eq_true rfl) (sp_Catalog_learnTurns M hc ht) (fun r1 M1 hq1 => ?_)
  refine z_withR (fun hR => ?_)
  obtain ⟨hf, htr, h45, h4i⟩ := hq1
  refine z_iconst dX1_isEven_4 ?_
  refine zistore_3_2 dX1_isEven_5 ?_
  exact loop M1 hf htr h45 h4i 3341 0 (by omega) (fun e' h => by omega)
theorem sp_Catalog_isPageOf (M : zMem) (Kf : Nat → Nat) (s ls : Nat) (o : Bool) (hs : s < 2) (hc : catF M) (hK : kepF M Kf) (hl : ls < 256) (ht : M 4 5 = 0 ∨ (M 4 5 = 1 ∧ trnF M)) : zSp zd_Catalog_isPageOf 4 [zr 4, zi s, zi ls, zi (if o then 1 else 0)] M (fun r M' => (zfr [3, 4, 15, 19] M M' ∧ (trnF M' ∧ M' 4 5 = 1 ∨ trnF M' = trnF M ∧ M' 4 5 = M 4 5) ∧ ∀ i, i ≠ 5 → M' 4 i = M 4 i) ∧ ((r = 1 ∧ ∀ e, e < 3341 → kq Kf ls e = kq Kf (2 ^ (6 + s)) (if o then tn e else e)) ∨ (r = 0 ∧ ∃ e, e < 3341 ∧ ¬ kq Kf ls e = kq Kf (2 ^ (6 + s)) (if o then tn e else e)))) := by
  refine zSp_in 2 [some (zr 4), some (zi s), some (zi ls), some (zi (if o then 1 else 0)), none, none] rfl rfl (by decide +kernel) rfl ?_
  refine z_withR (fun hR => ?_)
  have hpow : 2 ^ (6 + s) < 2 ^ 8 := Nat.pow_lt_pow_right (by decide) (by omega)
  obtain ⟨post, hpost⟩ : ∃ post : Int → zMem → Prop, post = (fun (r : Int) M' => (zfr [3, 4, 15, 19] M M' ∧ (trnF M' ∧ M' 4 5 = 1 ∨ trnF M' = trnF M ∧ M' 4 5 = M 4 5) ∧ ∀ i, i ≠ 5 → M' 4 i = M 4 i) ∧ ((r = 1 ∧ ∀ e, e < 3341 → kq Kf ls e = kq Kf (2 ^ (6 + s)) (if o then tn e else e)) ∨ (r = 0 ∧ ∃ e, e < 3341 ∧ ¬ kq Kf ls e = kq Kf (2 ^ (6 + s)) (if o then tn e else e)))) := ⟨_, rfl⟩
  rw [← hpost]
  have loop : ∀ (M1 : zMem), zfr [3, 4, 15, 19] M M1 → (o = true → trnF M1) → (trnF M1 ∧ M1 4 5 = 1 ∨ trnF M1 = trnF M ∧ M1 4 5 = M 4 5) → (∀ i, i ≠ 5 → M1 4 i = M 4 i) → ∀ (q e : Nat) (g : Option zAV), e + q = 3341 → (∀ e', e' < e → kq Kf ls e' = kq Kf (2 ^ (6 + s)) (if o then tn e' else e')) → zV zd_Catalog_isPageOf 4 11 [some (zr 4), some (zi s), some (zi ls), some (zi (if o then 1 else 0)), some (zi e), g] [] M1 post := by
    intro M1 hf hto hd h4i q
    have hK1 : kepF M1 Kf := hK.fr hf (by decide)
    induction q with
    | zero =>
      intro e g hq hno
      refine z_withR (fun hR => ?_)
      refine ziload_6_4 dX1_isPageOf_11 ?_
      refine z_sipush dX1_isPageOf_13 (by decide) ?_
      refine z_icmp_ge (tgt := 65) (by first | omega | exact hR.1 _ _ (by decide) | exact zrng_toInt _) (by first | omega | exact hR.1 _ _ (by decide) | exact zrng_toInt _) dX1_isPageOf_16 (by decide) (fun h16 => ?_) (fun h16 => ?_)
      · refine z_iconst dX1_isPageOf_65 ?_
        refine z_zret rfl (by omega) ?_ dX1_isPageOf_66
        rw [hpost]
        exact ⟨⟨hf, hd, h4i⟩, Or.inl ⟨rfl, fun e' h => hno e' (by omega)⟩⟩
      · omega
    | succ q ih =>
      intro e g hq hno
      have he : e < 3341 := by omega
      have t1 := (tn_ok (e := e)).1
      have k35 : ∀ x : Nat, x < 3341 → x = (if o then tn e else e) → zV zd_Catalog_isPageOf 4 35 [some (zr 4), some (zi s), some (zi ls), some (zi (if o then 1 else 0)), some (zi e), g] [zi x] M1 post := by
        intro x hx hxe
        refine z_withR (fun hR => ?_)
        refine zistore_6_5 dX1_isPageOf_35 ?_
        refine zaload_6_0 dX1_isPageOf_37 ?_
        refine ziload_6_4 dX1_isPageOf_38 ?_
        refine ziload_6_2 dX1_isPageOf_40 ?_
        refine zc_Catalog_98 rfl dX1_isPageOf_41 (by decide) (Nat.le_of_ble_eq_true rfl) (sp_Catalog_keepsAll M1 e (Kf e) ls he (hK1 _ he).1 (hK1 _ he).2 hl) (fun r41 M41 hq41 => ?_)
        refine z_withR (fun hR => ?_)
        obtain ⟨rfl, rfl⟩ := hq41
        rw [kq_if]
        refine zaload_6_0 dX1_isPageOf_44 ?_
        refine ziload_6_5 dX1_isPageOf_45 ?_
        refine ziload_6_1 dX1_isPageOf_47 ?_
        refine zc_Catalog_39 rfl dX1_isPageOf_48 (by decide) (Nat.le_of_ble_eq_true rfl) (sp_Catalog_slotBit _ s hs) (fun r48 M48 hq48 => ?_)
        refine z_withR (fun hR => ?_)
        obtain ⟨rfl, rfl⟩ := hq48
        refine zc_Catalog_98 rfl dX1_isPageOf_51 (by decide) (Nat.le_of_ble_eq_true rfl) (sp_Catalog_keepsAll M48 x (Kf x) (2 ^ (6 + s)) hx (hK1 _ hx).1 (hK1 _ hx).2 (by omega)) (fun r51 M51 hq51 => ?_)
        refine z_withR (fun hR => ?_)
        obtain ⟨rfl, rfl⟩ := hq51
        rw [kq_if]
        refine z_icmp_eq (tgt := 59) (by split <;> omega) (by split <;> omega) dX1_isPageOf_54 (by decide) (fun h54 => ?_) (fun h54 => ?_)
        · have hk : kq Kf ls e = kq Kf (2 ^ (6 + s)) x := by revert h54; cases kq Kf ls e <;> cases kq Kf (2 ^ (6 + s)) x <;> simp
          refine ziinc_6_4 dX1_isPageOf_59 ?_
          refine z_goto (tgt := 11) dX1_isPageOf_62 (by decide) ?_
          refine ih (e + 1) _ (by omega) (fun e' h1 => ?_)
          rcases Nat.lt_or_ge e' e with q | q
          · exact hno e' q
          · rw [show e' = e by omega, ← hxe]; exact hk
        · have hk : ¬ kq Kf ls e = kq Kf (2 ^ (6 + s)) x := by revert h54; cases kq Kf ls e <;> cases kq Kf (2 ^ (6 + s)) x <;> simp
          refine z_iconst dX1_isPageOf_57 ?_
          refine z_zret rfl (by omega) ?_ dX1_isPageOf_58
          rw [hpost]
          exact ⟨⟨hf, hd, h4i⟩, Or.inr ⟨rfl, e, he, by rw [← hxe]; exact hk⟩⟩
      refine z_withR (fun hR => ?_)
      refine ziload_6_4 dX1_isPageOf_11 ?_
      refine z_sipush dX1_isPageOf_13 (by decide) ?_
      refine z_icmp_ge (tgt := 65) (by first | omega | exact hR.1 _ _ (by decide) | exact zrng_toInt _) (by first | omega | exact hR.1 _ _ (by decide) | exact zrng_toInt _) dX1_isPageOf_16 (by decide) (fun h16 => ?_) (fun h16 => ?_)
      · omega
      · refine ziload_6_3 dX1_isPageOf_19 ?_
        refine z_if_eq (tgt := 33) (by split <;> omega) dX1_isPageOf_20 (by decide) (fun h20 => ?_) (fun h20 => ?_)
        · have ho : o = false := by revert h20; cases o <;> simp
          refine ziload_6_4 dX1_isPageOf_33 ?_
          first
            | exact k35 e he (by rw [ho]; rfl)
            | exact k35 (tn e) t1 (by rw [ho]; rfl)
        · have ho : o = true := by revert h20; cases o <;> simp
          refine zaload_6_0 dX1_isPageOf_23 ?_
          refine zg_Catalog_18 rfl dX1_isPageOf_24 ?_
          refine ziload_6_4 dX1_isPageOf_27 ?_
          refine z_iald (e) rfl (by decide) (by decide) (by omega) (by omega) dX1_isPageOf_29 ?_
          refine z_top (hto ho e he) ?_
          refine z_goto (tgt := 35) dX1_isPageOf_30 (by decide) ?_
          first
            | exact k35 e he (by rw [ho]; rfl)
            | exact k35 (tn e) t1 (by rw [ho]; rfl)
  refine ziload_6_3 dX1_isPageOf_0 ?_
  refine z_if_eq (tgt := 8) (by split <;> omega) dX1_isPageOf_1 (by decide) (fun h1 => ?_) (fun h1 => ?_)
  · have ho : o = false := by revert h1; cases o <;> simp
    refine z_iconst dX1_isPageOf_8 ?_
    refine zistore_6_4 dX1_isPageOf_9 ?_
    first
      | exact loop M zfr.rf (fun h => by rw [ho] at h; cases h) (Or.inr ⟨rfl, rfl⟩) (fun _ _ => rfl) 3341 0 _ (by omega) (fun e' h => by omega)
      | exact loop M5 hf (fun _ => htr) (Or.inl ⟨htr, h45⟩) h4i 3341 0 _ (by omega) (fun e' h => by omega)
  · have ho : o = true := by revert h1; cases o <;> simp
    refine zaload_6_0 dX1_isPageOf_4 ?_
    refine zc_Catalog_102 rfl dX1_isPageOf_5 (by decide) (Nat.le_of_ble_eq_true rfl) (sp_Catalog_learnTurns M hc ht) (fun r5 M5 hq5 => ?_)
    refine z_withR (fun hR => ?_)
    obtain ⟨hf, htr, h45, h4i⟩ := hq5
    refine z_iconst dX1_isPageOf_8 ?_
    refine zistore_6_4 dX1_isPageOf_9 ?_
    first
      | exact loop M zfr.rf (fun h => by rw [ho] at h; cases h) (Or.inr ⟨rfl, rfl⟩) (fun _ _ => rfl) 3341 0 _ (by omega) (fun e' h => by omega)
      | exact loop M5 hf (fun _ => htr) (Or.inl ⟨htr, h45⟩) h4i 3341 0 _ (by omega) (fun e' h => by omega)
