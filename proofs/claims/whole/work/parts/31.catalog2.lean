theorem catF.fr {S : List Nat} {M M' : zMem} (h : catF M) (hf : zfr S M M') (h17 : 17 ∉ S) (h18 : 18 ∉ S) : catF M' := by
  unfold catF at *
  rw [hf 17 h17, hf 18 h18]
  exact h
def kepF (M : zMem) (Kf : Nat → Nat) : Prop := ∀ e, e < 3341 → M 20 e = Kf e ∧ Kf e < 256
theorem kepF.fr {S : List Nat} {M M' : zMem} {Kf : Nat → Nat} (h : kepF M Kf) (hf : zfr S M M') (h20 : 20 ∉ S) : kepF M' Kf := by
  unfold kepF at *
  rw [hf 20 h20]
  exact h
theorem eK_lt {e : Nat} (he : e < 3341) : eK e < 19683 := by
  have h1 := (eK_ok he).1
  have h2 := (cN_le (okn_eSz e)).1
  omega
theorem sp_Catalog_settle (M : zMem) (L R LA LB Kf : Nat → Nat) (T P w : Nat) (hT : tmC M L R T) (hP : pgC M T P LA LB) (hw : M 4 6 = w) (hwP : w ≤ P) (hK : kepF M Kf) (hfil : M 4 4 = 0 ∨ (M 4 4 = 1 ∧ catF M)) :
    zSp zd_Catalog_settle 4 [zr 4, zr 1, zr 2] M (fun _ M' => zfr [3, 4, 15, 16, 17, 18, 20] M M' ∧ M' 4 4 = 1 ∧ catF M' ∧ M' 4 5 = M 4 5 ∧ M' 4 6 = P ∧ ∃ Kf' : Nat → Nat, kepF M' Kf' ∧ ∀ e, e < 3341 → ∀ i, (Kf' e).testBit i = if w ≤ i ∧ i < P then kp L R (eSz e) (eK e) (LA i) (LB i) else (Kf e).testBit i) := by
  refine zSp_in 1 [some (zr 4), some (zr 1), some (zr 2), none] rfl rfl (by decide +kernel) rfl ?_
  refine z_withR (fun hR => ?_)
  obtain ⟨post, hpost⟩ : ∃ post : Int → zMem → Prop, post = (fun (_ : Int) M' => zfr [3, 4, 15, 16, 17, 18, 20] M M' ∧ M' 4 4 = 1 ∧ catF M' ∧ M' 4 5 = M 4 5 ∧ M' 4 6 = P ∧ ∃ Kf' : Nat → Nat, kepF M' Kf' ∧ ∀ e, e < 3341 → ∀ i, (Kf' e).testBit i = if w ≤ i ∧ i < P then kp L R (eSz e) (eK e) (LA i) (LB i) else (Kf e).testBit i) := ⟨_, rfl⟩
  rw [← hpost]
  obtain ⟨hP1, hP6, hPl⟩ := id hP
  have loop : ∀ (q e : Nat) (M1 : zMem), e + q = 3341 → zfr [3, 4, 15, 16, 17, 18, 20] M M1 → M1 4 4 = 1 → catF M1 → M1 4 5 = M 4 5 → M1 4 6 = w → (∃ Kf' : Nat → Nat, kepF M1 Kf' ∧ ∀ e', e' < 3341 → ∀ i, (Kf' e').testBit i = if e' < e ∧ w ≤ i ∧ i < P then kp L R (eSz e') (eK e') (LA i) (LB i) else (Kf e').testBit i) → zV zd_Catalog_settle 4 24 [some (zr 4), some (zr 1), some (zr 2), some (zi e)] [] M1 post := by
    intro q
    induction q with
    | zero =>
      intro e M1 hq hf h44 hcat h45 h46 ⟨Kf', k1, k2⟩
      have e2 : M1 2 2 = P := by rw [hf 2 (by decide)]; exact hP1
      refine z_withR (fun hR => ?_)
      refine ziload_4_3 dX1_settle_24 ?_
      refine z_sipush dX1_settle_25 (by decide) ?_
      refine z_icmp_ge (tgt := 62) (by first | omega | exact hR.1 _ _ (by decide) | exact zrng_toInt _) (by first | omega | exact hR.1 _ _ (by decide) | exact zrng_toInt _) dX1_settle_28 (by decide) (fun h28 => ?_) (fun h28 => ?_)
      · refine zaload_4_0 dX1_settle_62 ?_
        refine zaload_4_2 dX1_settle_63 ?_
        refine zg_Catalog_78 rfl dX1_settle_64 ?_
        refine z_top e2 ?_
        refine zp_Catalog_31 rfl (by first | omega | exact hR.1 _ _ (by decide) | exact zrng_toInt _) dX1_settle_67 ?_
        refine z_withR (fun hR => ?_)
        refine z_vret rfl ?_ dX1_settle_70
        rw [hpost]
        refine ⟨hf.mu (by decide), h44, hcat, h45, zmu_same _ _ _ _, Kf', k1, fun e' he' i => ?_⟩
        rw [k2 e' he' i]
        by_cases h9 : w ≤ i ∧ i < P
        · rw [if_pos h9, if_pos (by omega)]
        · rw [if_neg h9, if_neg (by omega)]
      · omega
    | succ q ih =>
      intro e M1 hq hf h44 hcat h45 h46 ⟨Kf', k1, k2⟩
      have he : e < 3341 := by omega
      have hek := eK_lt he
      refine z_withR (fun hR => ?_)
      refine ziload_4_3 dX1_settle_24 ?_
      refine z_sipush dX1_settle_25 (by decide) ?_
      refine z_icmp_ge (tgt := 62) (by first | omega | exact hR.1 _ _ (by decide) | exact zrng_toInt _) (by first | omega | exact hR.1 _ _ (by decide) | exact zrng_toInt _) dX1_settle_28 (by decide) (fun h28 => ?_) (fun h28 => ?_)
      · omega
      · refine zaload_4_0 dX1_settle_31 ?_
        refine zg_Catalog_35 rfl dX1_settle_32 ?_
        refine zaload_4_0 dX1_settle_35 ?_
        refine ziload_4_3 dX1_settle_36 ?_
        refine zc_Catalog_81 rfl dX1_settle_37 (by decide) (Nat.le_of_ble_eq_true rfl) (sp_Catalog_sizeOf M1 e he) (fun r37 M37 hq37 => ?_)
        refine z_withR (fun hR => ?_)
        obtain ⟨rfl, rfl⟩ := hq37
        refine zaload_4_0 dX1_settle_40 ?_
        refine zg_Catalog_11 rfl dX1_settle_41 ?_
        refine ziload_4_3 dX1_settle_44 ?_
        refine z_iald _ rfl (by decide) (by decide) rfl (by omega) dX1_settle_45 ?_
        refine z_top (hcat e he).1 ?_
        refine zc_Catalog_54 rfl dX1_settle_46 (by decide) (Nat.le_of_ble_eq_true rfl) (sp_Table_load M37 (eSz e) (eK e) (okn_eSz e) (by omega)) (fun r46 M46 hq46 => ?_)
        refine z_withR (fun hR => ?_)
        obtain ⟨hf2, ht2⟩ := hq46
        have hf3 : zfr [3, 4, 15, 16, 17, 18, 20] M M46 := hf.tr hf2 (fun _ h => h) (by decide)
        refine zaload_4_0 dX1_settle_49 ?_
        refine zaload_4_1 dX1_settle_50 ?_
        refine zaload_4_2 dX1_settle_51 ?_
        refine ziload_4_3 dX1_settle_52 ?_
        refine zc_Catalog_84 rfl dX1_settle_53 (by decide) (Nat.le_of_ble_eq_true rfl) (sp_Catalog_tryLaws M46 L R LA LB T P w (eSz e) (eK e) e (Kf' e) (okn_eSz e) ht2 (hT.fr hf3 (by decide) (by decide) (by decide) (by decide)) (hP.fr hf3 (by decide) (by decide) (by decide)) (by rw [hf2 4 (by decide)]; exact h46) hwP he (by rw [hf2 20 (by decide)]; exact (k1 e he).1) (k1 e he).2) (fun r53 M53 hq53 => ?_)
        refine z_withR (fun hR => ?_)
        obtain ⟨hf4, ho, K2, j1, j2, j3⟩ := hq53
        refine ziinc_4_3 dX1_settle_56 ?_
        refine z_goto (tgt := 24) dX1_settle_59 (by decide) ?_
        refine ih (e + 1) M53 (by omega) (hf3.tr hf4 (fun _ h => h) (by decide)) (by rw [hf4 4 (by decide), hf2 4 (by decide)]; exact h44) ((hcat.fr hf2 (by decide) (by decide)).fr hf4 (by decide) (by decide)) (by rw [hf4 4 (by decide), hf2 4 (by decide)]; exact h45) (by rw [hf4 4 (by decide), hf2 4 (by decide)]; exact h46) ⟨fun e' => if e' = e then K2 else Kf' e', fun e' he' => ?_, fun e' he' i => ?_⟩
        · by_cases h9 : e' = e
          · subst h9; simp only [if_pos]; exact ⟨j1, j2⟩
          · simp only [if_neg h9]; rw [ho e' h9, hf2 20 (by decide)]; exact k1 e' he'
        · by_cases h9 : e' = e
          · subst h9
            simp only [if_pos]
            rw [j3 i, k2 e' he' i]
            by_cases h8 : w ≤ i ∧ i < P
            · rw [if_pos h8, if_pos (by omega)]
            · rw [if_neg h8, if_neg (by omega), if_neg (by omega)]
          · simp only [if_neg h9]
            rw [k2 e' he' i]
            by_cases h8 : e' < e ∧ w ≤ i ∧ i < P
            · rw [if_pos h8, if_pos (by omega)]
            · rw [if_neg h8, if_neg (by omega)]
  have k11 : ∀ (M1 : zMem), zfr [3, 4, 15, 17, 18] M M1 → M1 4 4 = 1 → catF M1 → M1 4 5 = M 4 5 → M1 4 6 = w → zV zd_Catalog_settle 4 11 [some (zr 4), some (zr 1), some (zr 2), none] [] M1 post := by
    intro M1 hf h44 hcat h45 h46
    have e2 : M1 2 2 = P := by rw [hf 2 (by decide)]; exact hP1
    have hK1 : kepF M1 Kf := hK.fr hf (by decide)
    refine z_withR (fun hR => ?_)
    refine zaload_4_0 dX1_settle_11 ?_
    refine zg_Catalog_31 rfl dX1_settle_12 ?_
    refine z_top h46 ?_
    refine zaload_4_2 dX1_settle_15 ?_
    refine zg_Catalog_78 rfl dX1_settle_16 ?_
    refine z_top e2 ?_
    refine z_icmp_ge (tgt := 70) (by first | omega | exact hR.1 _ _ (by decide) | exact zrng_toInt _) (by first | omega | exact hR.1 _ _ (by decide) | exact zrng_toInt _) dX1_settle_19 (by decide) (fun h19 => ?_) (fun h19 => ?_)
    · refine z_vret rfl ?_ dX1_settle_70
      rw [hpost]
      exact ⟨hf.up (by decide), h44, hcat, h45, by rw [h46]; omega, Kf, hK1, fun e' he' i => by rw [if_neg (by omega)]⟩
    · refine z_iconst dX1_settle_22 ?_
      refine zistore_4_3 dX1_settle_23 ?_
      exact loop 3341 0 M1 (by omega) (hf.up (by decide)) h44 hcat h45 h46 ⟨Kf, hK1, fun e' he' i => by rw [if_neg (by omega)]⟩
  refine zaload_4_0 dX1_settle_0 ?_
  refine zg_Catalog_24 rfl dX1_settle_1 ?_
  refine z_if_ne (tgt := 11) (by first | omega | exact hR.1 _ _ (by decide) | exact zrng_toInt _) dX1_settle_4 (by decide) (fun h4 => ?_) (fun h4 => ?_)
  · have hc : M 4 4 = 1 ∧ catF M := hfil.resolve_left h4
    first
      | exact k11 M zfr.rf hc.1 hc.2 rfl hw
      | exact k11 M8 (hf.up (by decide)) h44 hc (h4i 5 (by decide)) (by rw [h4i 6 (by decide)]; exact hw)
  · refine zaload_4_0 dX1_settle_7 ?_
    refine zc_Catalog_76 rfl dX1_settle_8 (by decide) (Nat.le_of_ble_eq_true rfl) (sp_Catalog_fill M) (fun r8 M8 hq8 => ?_)
    refine z_withR (fun hR => ?_)
    obtain ⟨hf, hc, h44, h4i⟩ := hq8
    first
      | exact k11 M zfr.rf hc.1 hc.2 rfl hw
      | exact k11 M8 (hf.up (by decide)) h44 hc (h4i 5 (by decide)) (by rw [h4i 6 (by decide)]; exact hw)
/-- an entry keeps the laws of a mask -/
def kq (Kf : Nat → Nat) (ls e : Nat) : Bool := Kf e &&& ls == ls
theorem zro_sT {n : Nat} (hn : okn n) : zro 74 n = sT n ∧ zro 74 (n + 1) = ((sT n + cC n : Nat) : Int) := by rcases hn with rfl | rfl | rfl <;> exact ⟨rfl, rfl⟩
theorem kq_if {Kf : Nat → Nat} {ls e : Nat} : (if Kf e &&& ls = ls then (1 : Int) else 0) = if kq Kf ls e then 1 else 0 := by
  unfold kq
  by_cases h : Kf e &&& ls = ls
  · rw [if_pos h, if_pos (by simpa using h)]
  · rw [if_neg h, if_neg (by simpa using h)]
noncomputable def hmF (Kf : Nat → Nat) (n ls : Nat) (once : Bool) (i : Nat) : Nat := if kq Kf ls (sT n + i) then (if once then 1 else likes (eSz (sT n + i)) (eK (sT n + i))) else 0
theorem sp_Catalog_howMany (M : zMem) (Kf : Nat → Nat) (n ls : Nat) (o : Bool) (hn : okn n) (hc : catF M) (hK : kepF M Kf) (hl : ls < 256) : zSp zd_Catalog_howMany 1 [zr 4, zi n, zi ls, zi (if o then 1 else 0)] M (fun r M' => M' = M ∧ r = fb_sm (hmF Kf n ls o) (cC n)) := by
  refine zSp_in 2 [some (zr 4), some (zi n), some (zi ls), some (zi (if o then 1 else 0)), none, none] rfl rfl (by decide +kernel) rfl ?_
  refine z_withR (fun hR => ?_)
  obtain ⟨z1, z2⟩ := zro_sT hn
  have hn3 := hn.le
  have hsc := sT_cC hn
  have hb : ∀ i, i ≤ cC n → fb_sm (hmF Kf n ls o) i ≤ i * 6 := fun i hi => fb_sm_bound (fun j hj => by
    have h1 := (eSz_of hn (show j < cC n by omega)).2
    have h2 := (likes_pos (okn_eSz (sT n + j)) (eK_ok h1).1).2
    unfold hmF; (repeat' split) <;> omega)
  have loop : ∀ (q i : Nat), i + q = cC n → zV zd_Catalog_howMany 1 10 [some (zr 4), some (zi n), some (zi ls), some (zi (if o then 1 else 0)), some (zi (fb_sm (hmF Kf n ls o) i)), some (zi ((sT n + i : Nat) : Int))] [] M (fun r M' => M' = M ∧ r = fb_sm (hmF Kf n ls o) (cC n)) := by
    intro q
    induction q with
    | zero =>
      intro i hi
      refine ziload_6_5 dX1_howMany_10 ?_
      refine zg_Catalog_51 rfl dX1_howMany_12 ?_
      refine ziload_6_1 dX1_howMany_15 ?_
      refine z_iconst dX1_howMany_16 ?_
      refine z_iadd dX1_howMany_17 ?_
      refine z_tald74 (n + 1) (by omega) (by omega) dX1_howMany_18 ?_
      refine z_top z2 ?_
      refine z_icmp_ge (tgt := 58) (by first | omega | exact hR.1 _ _ (by decide) | exact zrng_toInt _) (by first | omega | exact hR.1 _ _ (by decide) | exact zrng_toInt _) dX1_howMany_19 (by decide) (fun h19 => ?_) (fun h19 => ?_)
      · refine ziload_6_4 dX1_howMany_58 ?_
        refine z_iret rfl ?_ dX1_howMany_60
        exact ⟨rfl, by rw [show i = cC n by omega]⟩
      · omega
    | succ q ih =>
      intro i hi
      have he : sT n + i < 3341 := by omega
      have hbi := hb i (by omega)
      have h2 := (likes_pos (okn_eSz (sT n + i)) (eK_ok he).1).2
      have hs := fb_sm_succ (hmF Kf n ls o) i
      have hs2 : hmF Kf n ls o i = if kq Kf ls (sT n + i) then (if o then 1 else likes (eSz (sT n + i)) (eK (sT n + i))) else 0 := rfl
      have l1 := (hc _ he).2
      generalize likes (eSz (sT n + i)) (eK (sT n + i)) = lk at h2 hs2 l1
      refine ziload_6_5 dX1_howMany_10 ?_
      refine zg_Catalog_51 rfl dX1_howMany_12 ?_
      refine ziload_6_1 dX1_howMany_15 ?_
      refine z_iconst dX1_howMany_16 ?_
      refine z_iadd dX1_howMany_17 ?_
      refine z_tald74 (n + 1) (by omega) (by omega) dX1_howMany_18 ?_
      refine z_top z2 ?_
      refine z_icmp_ge (tgt := 58) (by first | omega | exact hR.1 _ _ (by decide) | exact zrng_toInt _) (by first | omega | exact hR.1 _ _ (by decide) | exact zrng_toInt _) dX1_howMany_19 (by decide) (fun h19 => ?_) (fun h19 => ?_)
      · omega
      · refine zaload_6_0 dX1_howMany_22 ?_
        refine ziload_6_5 dX1_howMany_23 ?_
        refine ziload_6_2 dX1_howMany_25 ?_
        refine zc_Catalog_98 rfl dX1_howMany_26 (by decide) (Nat.le_of_ble_eq_true rfl) (sp_Catalog_keepsAll M (sT n + i) (Kf (sT n + i)) ls he (hK _ he).1 (hK _ he).2 hl) (fun r26 M26 hq26 => ?_)
        refine z_withR (fun hR => ?_)
        obtain ⟨rfl, rfl⟩ := hq26
        rw [kq_if]
        refine z_if_eq (tgt := 52) (by split <;> omega) dX1_howMany_29 (by decide) (fun h29 => ?_) (fun h29 => ?_)
        · have hk : kq Kf ls (sT n + i) = false := by revert h29; cases kq Kf ls (sT n + i) <;> simp
          have e1 : fb_sm (hmF Kf n ls o) (i + 1) = fb_sm (hmF Kf n ls o) i := by rw [hs, hs2, hk]; rfl
          rw [← e1]
          refine ziinc_6_5 dX1_howMany_52 ?_
          refine z_goto (tgt := 10) dX1_howMany_55 (by decide) ?_
          exact ih (i + 1) (by omega)
        · have hk : kq Kf ls (sT n + i) = true := by revert h29; cases kq Kf ls (sT n + i) <;> simp
          refine ziload_6_4 dX1_howMany_32 ?_
          refine ziload_6_3 dX1_howMany_34 ?_
          refine z_if_eq (tgt := 42) (by split <;> omega) dX1_howMany_35 (by decide) (fun h35 => ?_) (fun h35 => ?_)
          · have ho : o = false := by revert h35; cases o <;> simp
            have e1 : fb_sm (hmF Kf n ls o) (i + 1) = fb_sm (hmF Kf n ls o) i + lk := by rw [hs, hs2, hk, ho]; rfl
            refine zaload_6_0 dX1_howMany_42 ?_
            refine zg_Catalog_15 rfl dX1_howMany_43 ?_
            refine ziload_6_5 dX1_howMany_46 ?_
            refine z_iald (sT n + i) rfl (by decide) (by decide) (by omega) (by omega) dX1_howMany_48 ?_
            refine z_top l1 ?_
            refine z_iadd dX1_howMany_49 ?_
            refine z_top (y := ((fb_sm (hmF Kf n ls o) (i + 1) : Nat) : Int)) (by rw [e1]; omega) ?_
            refine zistore_6_4 dX1_howMany_50 ?_
            refine ziinc_6_5 dX1_howMany_52 ?_
            refine z_goto (tgt := 10) dX1_howMany_55 (by decide) ?_
            exact ih (i + 1) (by omega)
          · have ho : o = true := by revert h35; cases o <;> simp
            have e1 : fb_sm (hmF Kf n ls o) (i + 1) = fb_sm (hmF Kf n ls o) i + 1 := by rw [hs, hs2, hk, ho]; rfl
            refine z_iconst dX1_howMany_38 ?_
            refine z_goto (tgt := 49) dX1_howMany_39 (by decide) ?_
            refine z_iadd dX1_howMany_49 ?_
            refine z_top (y := ((fb_sm (hmF Kf n ls o) (i + 1) : Nat) : Int)) (by rw [e1]; omega) ?_
            refine zistore_6_4 dX1_howMany_50 ?_
            refine ziinc_6_5 dX1_howMany_52 ?_
            refine z_goto (tgt := 10) dX1_howMany_55 (by decide) ?_
            exact ih (i + 1) (by omega)
  refine z_iconst dX1_howMany_0 ?_
  refine zistore_6_4 dX1_howMany_1 ?_
  refine zg_Catalog_51 rfl dX1_howMany_3 ?_
  refine ziload_6_1 dX1_howMany_6 ?_
  refine z_tald74 _ rfl (by omega) dX1_howMany_7 ?_
  refine z_top z1 ?_
  refine zistore_6_5 dX1_howMany_8 ?_
  exact loop (cC n) 0 (by omega)
theorem sp_Catalog_numberOf (M : zMem) (Kf : Nat → Nat) (n ls : Nat) (i : Int) (hi : zrng i) (hn : okn n) (hc : catF M) (hK : kepF M Kf) (hl : ls < 256) : zSp zd_Catalog_numberOf 1 [zr 4, zi n, zi ls, zi i] M (fun r M' => M' = M ∧ ((∃ j, j < cC n ∧ kq Kf ls (sT n + j) = true ∧ (fb_ct (fun j => kq Kf ls (sT n + j)) j : Int) = i ∧ r = eK (sT n + j)) ∨ (r = -9 ∧ ∀ j, j < cC n → kq Kf ls (sT n + j) = true → ¬ (fb_ct (fun j => kq Kf ls (sT n + j)) j : Int) = i))) := by
  refine zSp_in 2 [some (zr 4), some (zi n), some (zi ls), some (zi i), none, none] rfl rfl (by decide +kernel) rfl ?_
  refine z_withR (fun hR => ?_)
  obtain ⟨z1, z2⟩ := zro_sT hn
  have hn3 := hn.le
  have hsc := sT_cC hn
  have loop : ∀ (q j : Nat), j + q = cC n → (∀ j', j' < j → kq Kf ls (sT n + j') = true → ¬ (fb_ct (fun j => kq Kf ls (sT n + j)) j' : Int) = i) → zV zd_Catalog_numberOf 1 10 [some (zr 4), some (zi n), some (zi ls), some (zi i), some (zi (fb_ct (fun j => kq Kf ls (sT n + j)) j)), some (zi ((sT n + j : Nat) : Int))] [] M (fun r M' => M' = M ∧ ((∃ j, j < cC n ∧ kq Kf ls (sT n + j) = true ∧ (fb_ct (fun j => kq Kf ls (sT n + j)) j : Int) = i ∧ r = eK (sT n + j)) ∨ (r = -9 ∧ ∀ j, j < cC n → kq Kf ls (sT n + j) = true → ¬ (fb_ct (fun j => kq Kf ls (sT n + j)) j : Int) = i))) := by
    intro q
    induction q with
    | zero =>
      intro j hj hno
      refine ziload_6_5 dX1_numberOf_10 ?_
      refine zg_Catalog_51 rfl dX1_numberOf_12 ?_
      refine ziload_6_1 dX1_numberOf_15 ?_
      refine z_iconst dX1_numberOf_16 ?_
      refine z_iadd dX1_numberOf_17 ?_
      refine z_tald74 (n + 1) (by omega) (by omega) dX1_numberOf_18 ?_
      refine z_top z2 ?_
      refine z_icmp_ge (tgt := 55) (by first | omega | exact hR.1 _ _ (by decide) | exact zrng_toInt _) (by first | omega | exact hR.1 _ _ (by decide) | exact zrng_toInt _) dX1_numberOf_19 (by decide) (fun h19 => ?_) (fun h19 => ?_)
      · refine z_bipush dX1_numberOf_55 (by decide) ?_
        refine z_iret rfl ?_ dX1_numberOf_57
        exact ⟨rfl, Or.inr ⟨rfl, fun j' h1 => hno j' (by omega)⟩⟩
      · omega
    | succ q ih =>
      intro j hj hno
      have he : sT n + j < 3341 := by omega
      have hct := fb_ct_le (fun j => kq Kf ls (sT n + j)) j
      have hcs := fb_ct_succ (fun j => kq Kf ls (sT n + j)) j
      refine ziload_6_5 dX1_numberOf_10 ?_
      refine zg_Catalog_51 rfl dX1_numberOf_12 ?_
      refine ziload_6_1 dX1_numberOf_15 ?_
      refine z_iconst dX1_numberOf_16 ?_
      refine z_iadd dX1_numberOf_17 ?_
      refine z_tald74 (n + 1) (by omega) (by omega) dX1_numberOf_18 ?_
      refine z_top z2 ?_
      refine z_icmp_ge (tgt := 55) (by first | omega | exact hR.1 _ _ (by decide) | exact zrng_toInt _) (by first | omega | exact hR.1 _ _ (by decide) | exact zrng_toInt _) dX1_numberOf_19 (by decide) (fun h19 => ?_) (fun h19 => ?_)
      · omega
      · refine zaload_6_0 dX1_numberOf_22 ?_
        refine ziload_6_5 dX1_numberOf_23 ?_
        refine ziload_6_2 dX1_numberOf_25 ?_
        refine zc_Catalog_98 rfl dX1_numberOf_26 (by decide) (Nat.le_of_ble_eq_true rfl) (sp_Catalog_keepsAll M (sT n + j) (Kf (sT n + j)) ls he (hK _ he).1 (hK _ he).2 hl) (fun r26 M26 hq26 => ?_)
        refine z_withR (fun hR => ?_)
        obtain ⟨rfl, rfl⟩ := hq26
        rw [kq_if]
        refine z_if_eq (tgt := 49) (by split <;> omega) dX1_numberOf_29 (by decide) (fun h29 => ?_) (fun h29 => ?_)
        · have hk : kq Kf ls (sT n + j) = false := by revert h29; cases kq Kf ls (sT n + j) <;> simp
          have e1 : fb_ct (fun j => kq Kf ls (sT n + j)) (j + 1) = fb_ct (fun j => kq Kf ls (sT n + j)) j := by rw [hcs, hk]; rfl
          rw [← e1]
          refine ziinc_6_5 dX1_numberOf_49 ?_
          refine z_goto (tgt := 10) dX1_numberOf_52 (by decide) ?_
          refine ih (j + 1) (by omega) (fun j' h1 h2 => ?_)
          rcases Nat.lt_or_ge j' j with q | q
          · exact hno j' q h2
          · rw [show j' = j by omega] at h2 ⊢
            first
            | (intro h; omega)
            | (rw [hk] at h2; cases h2)
        · have hk : kq Kf ls (sT n + j) = true := by revert h29; cases kq Kf ls (sT n + j) <;> simp
          have e1 : fb_ct (fun j => kq Kf ls (sT n + j)) (j + 1) = fb_ct (fun j => kq Kf ls (sT n + j)) j + 1 := by rw [hcs, hk]; rfl
          refine ziload_6_4 dX1_numberOf_32 ?_
          refine ziload_6_3 dX1_numberOf_34 ?_
          refine z_icmp_ne (tgt := 46) (by first | omega | exact hR.1 _ _ (by decide) | exact zrng_toInt _) (by first | omega | exact hR.1 _ _ (by decide) | exact zrng_toInt _) dX1_numberOf_35 (by decide) (fun h35 => ?_) (fun h35 => ?_)
          · refine ziinc_6_4 dX1_numberOf_46 ?_
            rw [show ((fb_ct (fun j => kq Kf ls (sT n + j)) j : Nat) : Int) + 1 = ((fb_ct (fun j => kq Kf ls (sT n + j)) (j + 1) : Nat) : Int) by rw [e1]; omega]
            refine ziinc_6_5 dX1_numberOf_49 ?_
            refine z_goto (tgt := 10) dX1_numberOf_52 (by decide) ?_
            refine ih (j + 1) (by omega) (fun j' h1 h2 => ?_)
            rcases Nat.lt_or_ge j' j with q | q
            · exact hno j' q h2
            · rw [show j' = j by omega] at h2 ⊢
              first
              | (intro h; omega)
              | (rw [hk] at h2; cases h2)
          · refine zaload_6_0 dX1_numberOf_38 ?_
            refine zg_Catalog_11 rfl dX1_numberOf_39 ?_
            refine ziload_6_5 dX1_numberOf_42 ?_
            refine z_iald (sT n + j) rfl (by decide) (by decide) (by omega) (by omega) dX1_numberOf_44 ?_
            refine z_top (hc _ he).1 ?_
            refine z_iret rfl ?_ dX1_numberOf_45
            exact ⟨rfl, Or.inl ⟨j, by omega, hk, by omega, rfl⟩⟩
  refine z_iconst dX1_numberOf_0 ?_
  refine zistore_6_4 dX1_numberOf_1 ?_
  refine zg_Catalog_51 rfl dX1_numberOf_3 ?_
  refine ziload_6_1 dX1_numberOf_6 ?_
  refine z_tald74 _ rfl (by omega) dX1_numberOf_7 ?_
  refine z_top z1 ?_
  refine zistore_6_5 dX1_numberOf_8 ?_
  exact loop (cC n) 0 (by omega) (fun j' h => by omega)
theorem sp_Catalog_isNeeded (M : zMem) (Kf : Nat → Nat) (l ls : Nat) (hl6 : l < 6) (hK : kepF M Kf) (hl : ls < 256) : zSp zd_Catalog_isNeeded 1 [zr 4, zi l, zi ls] M (fun r M' => M' = M ∧ ((r = 1 ∧ ∃ e, e < 3341 ∧ kq Kf (nAndn ls (2 ^ l)) e = true ∧ kq Kf (2 ^ l) e = false) ∨ (r = 0 ∧ ∀ e, e < 3341 → kq Kf (nAndn ls (2 ^ l)) e = true → kq Kf (2 ^ l) e = true))) := by
  refine zSp_in 2 [some (zr 4), some (zi l), some (zi ls), none, none] rfl rfl (by decide +kernel) rfl ?_
  refine z_withR (fun hR => ?_)
  have hpow : 2 ^ l < 2 ^ 6 := Nat.pow_lt_pow_right (by decide) hl6
  have hand := nAndn_le ls (2 ^ l)
  have hsh := zShl_one (s := l) (by omega)
  have hn1 := zAndn (c := ls) (b := 2 ^ l) (by omega)
  generalize hN : nAndn ls (2 ^ l) = N at hand hn1
  have loop : ∀ (q e : Nat), e + q = 3341 → (∀ e', e' < e → kq Kf N e' = true → kq Kf (2 ^ l) e' = true) → zV zd_Catalog_isNeeded 1 11 [some (zr 4), some (zi l), some (zi ls), some (zi N), some (zi e)] [] M (fun r M' => M' = M ∧ ((r = 1 ∧ ∃ e, e < 3341 ∧ kq Kf N e = true ∧ kq Kf (2 ^ l) e = false) ∨ (r = 0 ∧ ∀ e, e < 3341 → kq Kf N e = true → kq Kf (2 ^ l) e = true))) := by
    intro q
    induction q with
    | zero =>
      intro e he hno
      refine ziload_5_4 dX1_isNeeded_11 ?_
      refine z_sipush dX1_isNeeded_13 (by decide) ?_
      refine z_icmp_ge (tgt := 49) (by first | omega | exact hR.1 _ _ (by decide) | exact zrng_toInt _) (by first | omega | exact hR.1 _ _ (by decide) | exact zrng_toInt _) dX1_isNeeded_16 (by decide) (fun h16 => ?_) (fun h16 => ?_)
      · refine z_iconst dX1_isNeeded_49 ?_
        refine z_zret rfl (by omega) ?_ dX1_isNeeded_50
        exact ⟨rfl, Or.inr ⟨rfl, fun e' h1 => hno e' (by omega)⟩⟩
      · omega
    | succ q ih =>
      intro e he hno
      have he2 : e < 3341 := by omega
      refine ziload_5_4 dX1_isNeeded_11 ?_
      refine z_sipush dX1_isNeeded_13 (by decide) ?_
      refine z_icmp_ge (tgt := 49) (by first | omega | exact hR.1 _ _ (by decide) | exact zrng_toInt _) (by first | omega | exact hR.1 _ _ (by decide) | exact zrng_toInt _) dX1_isNeeded_16 (by decide) (fun h16 => ?_) (fun h16 => ?_)
      · omega
      · refine zaload_5_0 dX1_isNeeded_19 ?_
        refine ziload_5_4 dX1_isNeeded_20 ?_
        refine ziload_5_3 dX1_isNeeded_22 ?_
        refine zc_Catalog_98 rfl dX1_isNeeded_23 (by decide) (Nat.le_of_ble_eq_true rfl) (sp_Catalog_keepsAll M e (Kf e) N he2 (hK _ he2).1 (hK _ he2).2 (by omega)) (fun r23 M23 hq23 => ?_)
        refine z_withR (fun hR => ?_)
        obtain ⟨rfl, rfl⟩ := hq23
        rw [kq_if]
        refine z_if_eq (tgt := 43) (by split <;> omega) dX1_isNeeded_26 (by decide) (fun h26 => ?_) (fun h26 => ?_)
        · have hk : kq Kf N e = false := by revert h26; cases kq Kf N e <;> simp
          refine ziinc_5_4 dX1_isNeeded_43 ?_
          refine z_goto (tgt := 11) dX1_isNeeded_46 (by decide) ?_
          refine ih (e + 1) (by omega) (fun e' h1 h2 => ?_)
          rcases Nat.lt_or_ge e' e with q | q
          · exact hno e' q h2
          · rw [show e' = e by omega] at h2 ⊢
            first
            | exact hk2
            | (rw [hk] at h2; cases h2)
        · have hk : kq Kf N e = true := by revert h26; cases kq Kf N e <;> simp
          refine zaload_5_0 dX1_isNeeded_29 ?_
          refine ziload_5_4 dX1_isNeeded_30 ?_
          refine z_iconst dX1_isNeeded_32 ?_
          refine ziload_5_1 dX1_isNeeded_33 ?_
          refine z_ishl dX1_isNeeded_34 ?_
          refine z_top hsh ?_
          refine zc_Catalog_98 rfl dX1_isNeeded_35 (by decide) (Nat.le_of_ble_eq_true rfl) (sp_Catalog_keepsAll M23 e (Kf e) (2 ^ l) he2 (hK _ he2).1 (hK _ he2).2 (by omega)) (fun r35 M35 hq35 => ?_)
          refine z_withR (fun hR => ?_)
          obtain ⟨rfl, rfl⟩ := hq35
          rw [kq_if]
          refine z_if_ne (tgt := 43) (by split <;> omega) dX1_isNeeded_38 (by decide) (fun h38 => ?_) (fun h38 => ?_)
          · have hk2 : kq Kf (2 ^ l) e = true := by revert h38; cases kq Kf (2 ^ l) e <;> simp
            refine ziinc_5_4 dX1_isNeeded_43 ?_
            refine z_goto (tgt := 11) dX1_isNeeded_46 (by decide) ?_
            refine ih (e + 1) (by omega) (fun e' h1 h2 => ?_)
            rcases Nat.lt_or_ge e' e with q | q
            · exact hno e' q h2
            · rw [show e' = e by omega] at h2 ⊢
              first
              | exact hk2
              | (rw [hk] at h2; cases h2)
          · have hk2 : kq Kf (2 ^ l) e = false := by revert h38; cases kq Kf (2 ^ l) e <;> simp
            refine z_iconst dX1_isNeeded_41 ?_
            refine z_zret rfl (by omega) ?_ dX1_isNeeded_42
            exact ⟨rfl, Or.inl ⟨rfl, e, he2, hk, hk2⟩⟩
  refine ziload_5_2 dX1_isNeeded_0 ?_
  refine z_iconst dX1_isNeeded_1 ?_
  refine ziload_5_1 dX1_isNeeded_2 ?_
  refine z_ishl dX1_isNeeded_3 ?_
  refine z_top hsh ?_
  refine z_iconst dX1_isNeeded_4 ?_
  refine z_ixor dX1_isNeeded_5 ?_
  refine z_iand dX1_isNeeded_6 ?_
  refine z_top hn1 ?_
  refine zistore_5_3 dX1_isNeeded_7 ?_
  refine z_iconst dX1_isNeeded_8 ?_
  refine zistore_5_4 dX1_isNeeded_9 ?_
  exact loop 3341 0 (by omega) (fun e' h => by omega)
