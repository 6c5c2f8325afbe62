theorem rowsR.fr {S : List Nat} {M M' : zMem} {B : Nat → Nat → Nat} (h : rowsR M B) (hf : zfr S M M') (hS : ∀ c ∈ [9, 35, 36, 37, 38, 39, 43, 46, 47, 48, 49, 50, 51, 53, 54, 56, 57, 58], c ∉ S) : rowsR M' B := by
  have g9 : M' 9 = M 9 := hf 9 (hS _ (by decide))
  obtain ⟨⟨h1, h2⟩, h3, h4, h5⟩ := h
  refine ⟨⟨h1.fr hf (fun c hc => hS c (by revert hc; revert c; decide)) (by rw [g9]) (by rw [g9]) (by rw [g9]), h2.fr hf (fun c hc => hS c (by revert hc; revert c; decide)) (by rw [g9]) (by rw [g9]) (by rw [g9])⟩, h3.fr hf (by rw [g9]) (hS _ (by decide)) (hS _ (by decide)), ?_, ?_⟩
  · rw [hf 47 (hS _ (by decide))]; exact h4
  · unfold rwR
    rw [hf 53 (hS _ (by decide))]; exact h5
theorem sp_Model_rareOf (M : zMem) (B : Nat → Nat → Nat) (n : Nat) (F : Nat → Bool) (hn : n < 13) (hl : M 9 15 = lT B) (hp : M 47 (lS (wK B)) = lP (wK B) (lS (wK B))) (hF : ∀ k, k < lP (wK B) (lS (wK B)) → M 53 (360 * n + k) = b01 (F k)) : zSp zd_Model_rareOf 2 [zr 9, zi n] M (fun r M' => M' = M ∧ r = ((min (fb_ct F (lP (wK B) (lS (wK B)))) (lP (wK B) (lS (wK B)) - fb_ct F (lP (wK B) (lS (wK B)))) : Nat) : Int)) := by
  refine zSp_in 2 [some (zr 9), some (zi n), none, none] rfl rfl (by decide +kernel) rfl ?_
  refine z_withR (fun hR => ?_)
  have hl40 := lS_le (wK B)
  have hpa := lP_all (wK B)
  have hle := fb_ct_le F (lP (wK B) (lS (wK B)))
  refine zaload_4_0 dX9_rareOf_0 ?_
  refine ziload_4_1 dX9_rareOf_1 ?_
  refine zc_Model_213 rfl dX9_rareOf_2 (by decide) (Nat.le_of_ble_eq_true rfl) (sp_Model_manyOf M B n F hn hl hp hF) (fun r2 M2 hq2 => ?_)
  refine z_withR (fun hR => ?_)
  have e2 := hq2.1.symm
  subst e2
  have q2 := hq2.2
  subst q2
  refine zistore_4_2 dX9_rareOf_5 ?_
  refine zaload_4_0 dX9_rareOf_6 ?_
  refine zg_Model_51 rfl dX9_rareOf_7 ?_
  refine zaload_4_0 dX9_rareOf_10 ?_
  refine zc_Model_181 rfl dX9_rareOf_11 (by decide) (Nat.le_of_ble_eq_true rfl) (sp_Model_onList M B hl) (fun r11 M11 hq11 => ?_)
  refine z_withR (fun hR => ?_)
  have e11 := hq11.1.symm
  subst e11
  have q11 := hq11.2
  subst q11
  refine z_iald _ rfl (by decide) (by decide) rfl (by omega) dX9_rareOf_14 ?_
  refine z_top hp ?_
  refine ziload_4_2 dX9_rareOf_15 ?_
  refine z_isub dX9_rareOf_16 ?_
  refine zistore_4_3 dX9_rareOf_17 ?_
  refine ziload_4_2 dX9_rareOf_18 ?_
  refine ziload_4_3 dX9_rareOf_19 ?_
  refine z_icmp_ge (tgt := 27) (by first | omega | exact hR.1 _ _ (by decide) | exact zrng_toInt _) (by first | omega | exact hR.1 _ _ (by decide) | exact zrng_toInt _) dX9_rareOf_20 (by decide) (fun h20 => ?_) (fun h20 => ?_)
  · refine ziload_4_3 dX9_rareOf_27 ?_
    refine z_iret rfl ?_ dX9_rareOf_28
    exact ⟨rfl, by omega⟩
  · refine ziload_4_2 dX9_rareOf_23 ?_
    refine z_goto (tgt := 28) dX9_rareOf_24 (by decide) ?_
    refine z_iret rfl ?_ dX9_rareOf_28
    exact ⟨rfl, by omega⟩
theorem rowsR.rare {M : zMem} {B : Nat → Nat → Nat} (h : rowsR M B) {n : Nat} (hn : n < B 6 0) : zSp zd_Model_rareOf 2 [zr 9, zi n] M (fun r M' => M' = M ∧ r = (cRare B n : Nat)) := by
  have k := sp_Model_rareOf M B n (rwF B n) (by have := h.n12; omega) h.2.1.2.1 h.at (h.fl hn)
  rw [show fb_ct (rwF B n) (lP (wK B) (lS (wK B))) = cMany B n from flB_ct _] at k
  exact k
theorem svF_eq {B : Nat → Nat → Nat} {n k : Nat} : svF (wK B) (bS B) (bAw B) n k = (!(k == n) && (bAw B k && ((cBut B k n == 0) || (cBut B n k == 0)))) := rfl
theorem sp_Model_servesOf (M : zMem) (B : Nat → Nat → Nat) (n : Nat) (h : rowsR M B) (hn : n < B 6 0) : zSp zd_Model_servesOf 2 [zr 9, zi n] M (fun r M' => M' = M ∧ r = (cServ B n : Nat)) := by
  refine zSp_in 2 [some (zr 9), some (zi n), none, none] rfl rfl (by decide +kernel) rfl ?_
  refine z_withR (fun hR => ?_)
  obtain ⟨n1, n12, nw, n4⟩ := id h.1.1.2.2.2.2.1
  obtain ⟨F, hF⟩ : ∃ F, F = svF (wK B) (bS B) (bAw B) n := ⟨_, rfl⟩
  have eC : cServ B n = fb_ct F (B 6 0) := by rw [hF]; rfl
  have eF : ∀ k, F k = (!(k == n) && (bAw B k && ((cBut B k n == 0) || (cBut B n k == 0)))) := fun k => by rw [hF]; rfl
  rw [eC]
  have loop : ∀ (c k : Nat), k + c = B 6 0 → zV zd_Model_servesOf 2 4 [some (zr 9), some (zi n), some (zi (fb_ct F k : Nat)), some (zi k)] [] M (fun r M' => M' = M ∧ r = (fb_ct F (B 6 0) : Nat)) := by
    intro c
    induction c with
    | zero =>
      intro k hk
      refine ziload_4_3 dX9_servesOf_4 ?_
      refine zaload_4_0 dX9_servesOf_5 ?_
      refine zg_Model_187 rfl dX9_servesOf_6 ?_
      refine z_top n1 ?_
      refine z_icmp_ge (tgt := 58) (by first | omega | exact hR.1 _ _ (by decide) | exact zrng_toInt _) (by first | omega | exact hR.1 _ _ (by decide) | exact zrng_toInt _) dX9_servesOf_9 (by decide) (fun h9 => ?_) (fun h9 => ?_)
      · refine ziload_4_2 dX9_servesOf_58 ?_
        refine z_iret rfl ?_ dX9_servesOf_59
        exact ⟨rfl, by rw [show k = B 6 0 by omega]⟩
      · omega
    | succ c ih =>
      intro k hk
      have hle := fb_ct_le F k
      have hA := (n4 k (by omega)).2.2.2
      have c1 := cBut_le (B := B) (a := k) (b := n)
      have c2 := cBut_le (B := B) (a := n) (b := k)
      have e1 := fb_ct_succ F k
      rw [eF] at e1
      refine ziload_4_3 dX9_servesOf_4 ?_
      refine zaload_4_0 dX9_servesOf_5 ?_
      refine zg_Model_187 rfl dX9_servesOf_6 ?_
      refine z_top n1 ?_
      refine z_icmp_ge (tgt := 58) (by first | omega | exact hR.1 _ _ (by decide) | exact zrng_toInt _) (by first | omega | exact hR.1 _ _ (by decide) | exact zrng_toInt _) dX9_servesOf_9 (by decide) (fun h9 => ?_) (fun h9 => ?_)
      · omega
      · refine ziload_4_2 dX9_servesOf_12 ?_
        refine ziload_4_3 dX9_servesOf_13 ?_
        refine ziload_4_1 dX9_servesOf_14 ?_
        refine z_icmp_eq (tgt := 49) (by first | omega | exact hR.1 _ _ (by decide) | exact zrng_toInt _) (by first | omega | exact hR.1 _ _ (by decide) | exact zrng_toInt _) dX9_servesOf_15 (by decide) (fun h15 => ?_) (fun h15 => ?_)
        · have e : fb_ct F (k + 1) = fb_ct F k + 0 := by
            rw [e1, show k = n by omega]
            simp
          refine z_iconst dX9_servesOf_49 ?_
          refine z_iadd dX9_servesOf_50 ?_
          refine z_top (y := ((fb_ct F (k + 1) : Nat) : Int)) (by rw [e]; omega) ?_
          refine zistore_4_2 dX9_servesOf_51 ?_
          refine ziinc_4_3 dX9_servesOf_52 ?_
          refine z_goto (tgt := 4) dX9_servesOf_55 (by decide) ?_
          exact ih (k + 1) (by omega)
        · have hkn : ¬ k = n := by omega
          refine zaload_4_0 dX9_servesOf_18 ?_
          refine zg_Model_63 rfl dX9_servesOf_19 ?_
          refine ziload_4_3 dX9_servesOf_22 ?_
          refine z_zald _ rfl (by decide) (by decide) rfl (by omega) dX9_servesOf_23 ?_
          refine z_top hA ?_
          refine z_if_ne (tgt := 49) (by split <;> decide) dX9_servesOf_24 (by decide) (fun h24 => ?_) (fun h24 => ?_)
          · have hno : bAw B k = false := by
              cases hz : bAw B k
              · rfl
              · rw [hz] at h24; exact absurd rfl h24
            have e : fb_ct F (k + 1) = fb_ct F k + 0 := by
              rw [e1, hno]
              simp
            refine z_iconst dX9_servesOf_49 ?_
            refine z_iadd dX9_servesOf_50 ?_
            refine z_top (y := ((fb_ct F (k + 1) : Nat) : Int)) (by rw [e]; omega) ?_
            refine zistore_4_2 dX9_servesOf_51 ?_
            refine ziinc_4_3 dX9_servesOf_52 ?_
            refine z_goto (tgt := 4) dX9_servesOf_55 (by decide) ?_
            exact ih (k + 1) (by omega)
          · have hyes : bAw B k = true := by
              cases hz : bAw B k
              · rw [hz] at h24; exact absurd h24 (by decide)
              · rfl
            refine zaload_4_0 dX9_servesOf_27 ?_
            refine ziload_4_3 dX9_servesOf_28 ?_
            refine ziload_4_1 dX9_servesOf_29 ?_
            refine zc_Model_209 rfl dX9_servesOf_30 (by decide) (Nat.le_of_ble_eq_true rfl) (h.but (a := k) (b := n) (by omega) hn) (fun r30 M30 hq30 => ?_)
            refine z_withR (fun hR => ?_)
            have e30 := hq30.1.symm
            subst e30
            have q30 := hq30.2
            subst q30
            refine z_if_eq (tgt := 45) (by first | omega | exact hR.1 _ _ (by decide) | exact zrng_toInt _) dX9_servesOf_33 (by decide) (fun h33 => ?_) (fun h33 => ?_)
            · have e : fb_ct F (k + 1) = fb_ct F k + 1 := by
                rw [e1, hyes, show cBut B k n = 0 by omega]
                simp [hkn]
              refine z_iconst dX9_servesOf_45 ?_
              refine z_goto (tgt := 50) dX9_servesOf_46 (by decide) ?_
              refine z_iadd dX9_servesOf_50 ?_
              refine z_top (y := ((fb_ct F (k + 1) : Nat) : Int)) (by rw [e]; omega) ?_
              refine zistore_4_2 dX9_servesOf_51 ?_
              refine ziinc_4_3 dX9_servesOf_52 ?_
              refine z_goto (tgt := 4) dX9_servesOf_55 (by decide) ?_
              exact ih (k + 1) (by omega)
            · have hz1 : ¬ cBut B k n = 0 := by omega
              refine zaload_4_0 dX9_servesOf_36 ?_
              refine ziload_4_1 dX9_servesOf_37 ?_
              refine ziload_4_3 dX9_servesOf_38 ?_
              refine zc_Model_209 rfl dX9_servesOf_39 (by decide) (Nat.le_of_ble_eq_true rfl) (h.but (a := n) (b := k) hn (by omega)) (fun r39 M39 hq39 => ?_)
              refine z_withR (fun hR => ?_)
              have e39 := hq39.1.symm
              subst e39
              have q39 := hq39.2
              subst q39
              refine z_if_ne (tgt := 49) (by first | omega | exact hR.1 _ _ (by decide) | exact zrng_toInt _) dX9_servesOf_42 (by decide) (fun h42 => ?_) (fun h42 => ?_)
              · have e : fb_ct F (k + 1) = fb_ct F k + 0 := by
                  have hz2 : ¬ cBut B n k = 0 := by omega
                  rw [e1, hyes]
                  simp [hz1, hz2]
                refine z_iconst dX9_servesOf_49 ?_
                refine z_iadd dX9_servesOf_50 ?_
                refine z_top (y := ((fb_ct F (k + 1) : Nat) : Int)) (by rw [e]; omega) ?_
                refine zistore_4_2 dX9_servesOf_51 ?_
                refine ziinc_4_3 dX9_servesOf_52 ?_
                refine z_goto (tgt := 4) dX9_servesOf_55 (by decide) ?_
                exact ih (k + 1) (by omega)
              · have e : fb_ct F (k + 1) = fb_ct F k + 1 := by
                  rw [e1, hyes, show cBut B n k = 0 by omega]
                  simp [hkn]
                refine z_iconst dX9_servesOf_45 ?_
                refine z_goto (tgt := 50) dX9_servesOf_46 (by decide) ?_
                refine z_iadd dX9_servesOf_50 ?_
                refine z_top (y := ((fb_ct F (k + 1) : Nat) : Int)) (by rw [e]; omega) ?_
                refine zistore_4_2 dX9_servesOf_51 ?_
                refine ziinc_4_3 dX9_servesOf_52 ?_
                refine z_goto (tgt := 4) dX9_servesOf_55 (by decide) ?_
                exact ih (k + 1) (by omega)
  refine z_iconst dX9_servesOf_0 ?_
  refine zistore_4_2 dX9_servesOf_1 ?_
  refine z_iconst dX9_servesOf_2 ?_
  refine zistore_4_3 dX9_servesOf_3 ?_
  exact loop (B 6 0) 0 (by omega)
theorem dp_le {T N : Nat} {W A Bb : Nat → Nat} (hw : wfN T N W A Bb) (h12 : N ≤ 12) {n : Nat} (hn : n < N) : dp W A Bb n ≤ 4096 := by
  have := (nn_lt hw n hn).2.1
  have p : 2 ^ (n + 1) ≤ 2 ^ 12 := Nat.pow_le_pow_right (by decide) (by omega)
  omega
theorem sp_Model_deepOf (M : zMem) (B : Nat → Nat → Nat) (n : Nat) (h : rowsR M B) (hn : n < B 6 0) : zSp zd_Model_deepOf 0 [zr 9, zi n] M (fun r M' => zfr [55] M M' ∧ r = (dp (B 7) (B 8) (B 9) n : Nat)) := by
  refine zSp_in 1 [some (zr 9), some (zi n), none] rfl rfl (by decide +kernel) rfl ?_
  refine z_withR (fun hR => ?_)
  obtain ⟨n1, n12, nw, n4⟩ := id h.1.1.2.2.2.2.1
  obtain ⟨D, hD⟩ : ∃ D, D = dp (B 7) (B 8) (B 9) := ⟨_, rfl⟩
  have hle : ∀ i, i < B 6 0 → D i ≤ 4096 := fun i hi => by rw [hD]; exact dp_le nw n12 hi
  have hrec : ∀ i, i < B 6 0 → D i = 1 + (if B 7 i = 0 then 0 else D (B 8 i)) + (if B 7 i = 2 then D (B 9 i) else 0) := fun i hi => by rw [hD]; exact dp_rec nw hi
  rw [← hD]
  have loop : ∀ (c k : Nat) (M1 : zMem), k + c = n + 1 → zfr [55] M M1 → (∀ j, j < k → M1 55 j = (D j : Nat)) → zV zd_Model_deepOf 0 2 [some (zr 9), some (zi n), some (zi k)] [] M1 (fun r M' => zfr [55] M M' ∧ r = (D n : Nat)) := by
    intro c
    induction c with
    | zero =>
      intro k M1 hk hf hj
      have e := hj n (by omega)
      refine z_withR (fun hR => ?_)
      refine ziload_3_2 dX9_deepOf_2 ?_
      refine ziload_3_1 dX9_deepOf_3 ?_
      refine z_icmp_gt (tgt := 71) (by first | omega | exact hR.1 _ _ (by decide) | exact zrng_toInt _) (by first | omega | exact hR.1 _ _ (by decide) | exact zrng_toInt _) dX9_deepOf_4 (by decide) (fun h4 => ?_) (fun h4 => ?_)
      · refine zaload_3_0 dX9_deepOf_71 ?_
        refine zg_Model_75 rfl dX9_deepOf_72 ?_
        refine ziload_3_1 dX9_deepOf_75 ?_
        refine z_iald _ rfl (by decide) (by decide) rfl (by omega) dX9_deepOf_76 ?_
        refine z_iret rfl ?_ dX9_deepOf_77
        exact ⟨hf, e⟩
      · omega
    | succ c ih =>
      intro k M1 hk hf hj
      obtain ⟨w1, w2, w3, w4⟩ := n4 k (by omega)
      obtain ⟨v1, v2, v3⟩ := nw k (by omega)
      have e48 : M1 48 k = B 7 k := by rw [hf 48 (by decide)]; exact w1
      have e49 : M1 49 k = B 8 k := by rw [hf 49 (by decide)]; exact w2
      have e50 : B 7 k = 2 → M1 50 k = B 9 k := fun z => by rw [hf 50 (by decide)]; exact w3 (Or.inr z)
      have hl := hle k (by omega)
      have hr := hrec k (by omega)
      refine z_withR (fun hR => ?_)
      refine ziload_3_2 dX9_deepOf_2 ?_
      refine ziload_3_1 dX9_deepOf_3 ?_
      refine z_icmp_gt (tgt := 71) (by first | omega | exact hR.1 _ _ (by decide) | exact zrng_toInt _) (by first | omega | exact hR.1 _ _ (by decide) | exact zrng_toInt _) dX9_deepOf_4 (by decide) (fun h4 => ?_) (fun h4 => ?_)
      · omega
      · refine zaload_3_0 dX9_deepOf_7 ?_
        refine zg_Model_75 rfl dX9_deepOf_8 ?_
        refine ziload_3_2 dX9_deepOf_11 ?_
        refine zaload_3_0 dX9_deepOf_12 ?_
        refine zg_Model_54 rfl dX9_deepOf_13 ?_
        refine ziload_3_2 dX9_deepOf_16 ?_
        refine z_iald _ rfl (by decide) (by decide) rfl (by omega) dX9_deepOf_17 ?_
        refine z_top e48 ?_
        refine z_if_ne (tgt := 25) (by first | omega | exact hR.1 _ _ (by decide) | exact zrng_toInt _) dX9_deepOf_18 (by decide) (fun h18 => ?_) (fun h18 => ?_)
        · have h0 : ¬ B 7 k = 0 := by omega
          obtain ⟨u1, u2⟩ := v3 h0
          rw [if_neg h0] at hr
          refine zaload_3_0 dX9_deepOf_25 ?_
          refine zg_Model_75 rfl dX9_deepOf_26 ?_
          refine zaload_3_0 dX9_deepOf_29 ?_
          refine zg_Model_57 rfl dX9_deepOf_30 ?_
          refine ziload_3_2 dX9_deepOf_33 ?_
          refine z_iald _ rfl (by decide) (by decide) rfl (by omega) dX9_deepOf_34 ?_
          refine z_top e49 ?_
          refine z_iald _ rfl (by decide) (by decide) rfl (by omega) dX9_deepOf_35 ?_
          refine z_top (hj (B 8 k) u1) ?_
          refine zaload_3_0 dX9_deepOf_36 ?_
          refine zg_Model_54 rfl dX9_deepOf_37 ?_
          refine ziload_3_2 dX9_deepOf_40 ?_
          refine z_iald _ rfl (by decide) (by decide) rfl (by omega) dX9_deepOf_41 ?_
          refine z_top e48 ?_
          refine z_iconst dX9_deepOf_42 ?_
          refine z_icmp_ne (tgt := 60) (by first | omega | exact hR.1 _ _ (by decide) | exact zrng_toInt _) (by first | omega | exact hR.1 _ _ (by decide) | exact zrng_toInt _) dX9_deepOf_43 (by decide) (fun h43 => ?_) (fun h43 => ?_)
          · rw [if_neg (show ¬ B 7 k = 2 by omega)] at hr
            refine z_iconst dX9_deepOf_60 ?_
            refine z_iadd dX9_deepOf_61 ?_
            refine z_iconst dX9_deepOf_62 ?_
            refine z_iadd dX9_deepOf_63 ?_
            refine z_top (y := (D k : Int)) (by omega) ?_
            refine z_iast _ (by decide) rfl (by decide) (by decide) rfl (by omega) (by first | omega | exact hR.1 _ _ (by decide) | exact zrng_toInt _) dX9_deepOf_64 ?_
            refine z_withR (fun hR => ?_)
            refine ziinc_3_2 dX9_deepOf_65 ?_
            refine z_goto (tgt := 2) dX9_deepOf_68 (by decide) ?_
            refine ih (k + 1) _ (by omega) (hf.mu (by decide)) (fun j hj2 => ?_)
            by_cases e : j = k
            · rw [e, zmu_same]
            · rw [zmu_ne _ _ _ _ e]; exact hj j (by omega)
          · have h2 : B 7 k = 2 := by omega
            rw [if_pos h2] at hr
            refine zaload_3_0 dX9_deepOf_46 ?_
            refine zg_Model_75 rfl dX9_deepOf_47 ?_
            refine zaload_3_0 dX9_deepOf_50 ?_
            refine zg_Model_60 rfl dX9_deepOf_51 ?_
            refine ziload_3_2 dX9_deepOf_54 ?_
            refine z_iald _ rfl (by decide) (by decide) rfl (by omega) dX9_deepOf_55 ?_
            refine z_top (e50 h2) ?_
            refine z_iald _ rfl (by decide) (by decide) rfl (by omega) dX9_deepOf_56 ?_
            refine z_top (hj (B 9 k) u2) ?_
            refine z_goto (tgt := 61) dX9_deepOf_57 (by decide) ?_
            refine z_iadd dX9_deepOf_61 ?_
            refine z_iconst dX9_deepOf_62 ?_
            refine z_iadd dX9_deepOf_63 ?_
            refine z_top (y := (D k : Int)) (by omega) ?_
            refine z_iast _ (by decide) rfl (by decide) (by decide) rfl (by omega) (by first | omega | exact hR.1 _ _ (by decide) | exact zrng_toInt _) dX9_deepOf_64 ?_
            refine z_withR (fun hR => ?_)
            refine ziinc_3_2 dX9_deepOf_65 ?_
            refine z_goto (tgt := 2) dX9_deepOf_68 (by decide) ?_
            refine ih (k + 1) _ (by omega) (hf.mu (by decide)) (fun j hj2 => ?_)
            by_cases e : j = k
            · rw [e, zmu_same]
            · rw [zmu_ne _ _ _ _ e]; exact hj j (by omega)
        · have h0 : B 7 k = 0 := by omega
          rw [if_pos h0, if_neg (by omega)] at hr
          refine z_iconst dX9_deepOf_21 ?_
          refine z_goto (tgt := 64) dX9_deepOf_22 (by decide) ?_
          refine z_top (y := (D k : Int)) (by omega) ?_
          refine z_iast _ (by decide) rfl (by decide) (by decide) rfl (by omega) (by first | omega | exact hR.1 _ _ (by decide) | exact zrng_toInt _) dX9_deepOf_64 ?_
          refine z_withR (fun hR => ?_)
          refine ziinc_3_2 dX9_deepOf_65 ?_
          refine z_goto (tgt := 2) dX9_deepOf_68 (by decide) ?_
          refine ih (k + 1) _ (by omega) (hf.mu (by decide)) (fun j hj2 => ?_)
          by_cases e : j = k
          · rw [e, zmu_same]
          · rw [zmu_ne _ _ _ _ e]; exact hj j (by omega)
  refine z_iconst dX9_deepOf_0 ?_
  refine zistore_3_2 dX9_deepOf_1 ?_
  exact loop (n + 1) 0 M (by omega) zfr.rf (fun j h => absurd h (Nat.not_lt_zero _))
theorem wO_bdR {M : zMem} {B : Nat → Nat → Nat} (h : abR0 M B) {n : Nat} (hn : n < B 6 0) : ((0 : Int) ≤ (B 11 0 : Int) * (cRare B n : Int) ∧ (B 11 0 : Int) * (cRare B n : Int) ≤ 3240) ∧ ((0 : Int) ≤ (B 11 1 : Int) * (cServ B n : Int) ∧ (B 11 1 : Int) * (cServ B n : Int) ≤ 108) ∧ ((0 : Int) ≤ (B 11 2 : Int) * (dp (B 7) (B 8) (B 9) n : Int) ∧ (B 11 2 : Int) * (dp (B 7) (B 8) (B 9) n : Int) ≤ 36864) := by
  obtain ⟨h1, h2, h3, h4, h5, h6, h7⟩ := h
  have c1 : cRare B n ≤ 360 := by have := cMany_le (B := B) (n := n); unfold cRare; omega
  have c2 : cServ B n ≤ 12 := Nat.le_trans (fb_ct_le _ _) h5.2.1
  have c3 := dp_le h5.2.2.1 h5.2.1 hn
  exact ⟨mul_bd (h6 0 (by omega)).2 c1, mul_bd (h6 1 (by omega)).2 c2, mul_bd (h6 2 (by omega)).2 c3⟩
theorem sp_Model_worthOf (M : zMem) (B : Nat → Nat → Nat) (n : Nat) (h : rowsR M B) (hn : n < B 6 0) : zSp zd_Model_worthOf 3 [zr 9, zi n] M (fun r M' => zfr [55] M M' ∧ r = wO B n) := by
  refine zSp_in 0 [some (zr 9), some (zi n)] rfl rfl (by decide +kernel) rfl ?_
  refine z_withR (fun hR => ?_)
  have hpt := h.1.1.2.2.2.2.2.1
  have w0 := (hpt 0 (by omega)).1
  have w1 := (hpt 1 (by omega)).1
  have w2 := (hpt 2 (by omega)).1
  have hb := wO_bdR h.1.1 hn
  refine zaload_2_0 dX9_worthOf_0 ?_
  refine zg_Model_72 rfl dX9_worthOf_1 ?_
  refine z_iconst dX9_worthOf_4 ?_
  refine z_iald (0) rfl (by decide) (by decide) rfl (by omega) dX9_worthOf_5 ?_
  refine z_top w0 ?_
  refine zaload_2_0 dX9_worthOf_6 ?_
  refine ziload_2_1 dX9_worthOf_7 ?_
  refine zc_Model_223 rfl dX9_worthOf_8 (by decide) (Nat.le_of_ble_eq_true rfl) (h.rare hn) (fun r8 M8 hq8 => ?_)
  refine z_withR (fun hR => ?_)
  have e8 := hq8.1.symm
  subst e8
  have q8 := hq8.2
  subst q8
  refine z_imul dX9_worthOf_11 ?_
  refine zaload_2_0 dX9_worthOf_12 ?_
  refine zg_Model_72 rfl dX9_worthOf_13 ?_
  refine z_iconst dX9_worthOf_16 ?_
  refine z_iald (1) rfl (by decide) (by decide) rfl (by omega) dX9_worthOf_17 ?_
  refine z_top w1 ?_
  refine zaload_2_0 dX9_worthOf_18 ?_
  refine ziload_2_1 dX9_worthOf_19 ?_
  refine zc_Model_226 rfl dX9_worthOf_20 (by decide) (Nat.le_of_ble_eq_true rfl) (sp_Model_servesOf M B n h hn) (fun r20 M20 hq20 => ?_)
  refine z_withR (fun hR => ?_)
  have e20 := hq20.1.symm
  subst e20
  have q20 := hq20.2
  subst q20
  refine z_imul dX9_worthOf_23 ?_
  refine z_iadd dX9_worthOf_24 ?_
  refine zaload_2_0 dX9_worthOf_25 ?_
  refine zg_Model_72 rfl dX9_worthOf_26 ?_
  refine z_iconst dX9_worthOf_29 ?_
  refine z_iald (2) rfl (by decide) (by decide) rfl (by omega) dX9_worthOf_30 ?_
  refine z_top w2 ?_
  refine zaload_2_0 dX9_worthOf_31 ?_
  refine ziload_2_1 dX9_worthOf_32 ?_
  refine zc_Model_229 rfl dX9_worthOf_33 (by decide) (Nat.le_of_ble_eq_true rfl) (sp_Model_deepOf M B n h hn) (fun r33 M33 hq33 => ?_)
  refine z_withR (fun hR => ?_)
  obtain ⟨f33, q33⟩ := hq33
  subst q33
  refine z_imul dX9_worthOf_36 ?_
  refine z_isub dX9_worthOf_37 ?_
  refine z_iret rfl ?_ dX9_worthOf_38
  exact ⟨f33, rfl⟩
theorem sp_Model_worth (M : zMem) (B : Nat → Nat → Nat) (n w : Int) (hn : zrng n) (hw : zrng w) (h : abR M B) : zSp zd_Model_worth 5 [zr 9, zi n, zi w] M (fun r M' => rOK M M' B r (fWorth B n w)) := by
  refine zSp_in 0 [some (zr 9), some (zi n), some (zi w)] rfl rfl (by decide +kernel) rfl ?_
  refine z_withR (fun hR => ?_)
  obtain ⟨n1, n12, nw, n4⟩ := id h.1.2.2.2.2.1
  refine zaload_3_0 dX9_worth_0 ?_
  refine ziload_3_1 dX9_worth_1 ?_
  refine zc_Model_192 rfl dX9_worth_2 (by decide) (Nat.le_of_ble_eq_true rfl) (sp_Model_isNotion M n (B 6 0) hn n1 (by omega)) (fun r2 M2 hq2 => ?_)
  refine z_withR (fun hR => ?_)
  have e2 := hq2.1.symm
  subst e2
  have q2 := hq2.2
  have q2 := or_if q2
  refine z_if_ne (tgt := 10) (or_rng q2) dX9_worth_5 (by decide) (fun h5 => ?_) (fun h5 => ?_)
  · have y := or_yes q2 h5
    obtain ⟨n', rfl⟩ : ∃ n' : Nat, n = n' := ⟨n.toNat, by omega⟩
    refine zaload_3_0 dX9_worth_10 ?_
    refine zc_Model_206 rfl dX9_worth_11 (by decide) (Nat.le_of_ble_eq_true rfl) (sp_Model_layRows M B h) (fun r11 M11 hq11 => ?_)
    refine z_withR (fun hR => ?_)
    obtain ⟨f11, r11'⟩ := hq11
    have hb := wO_bdR r11'.1.1 (n := n') (by omega)
    have hb2 : -40000 ≤ wO B n' ∧ wO B n' ≤ 40000 := by unfold wO; omega
    refine ziload_3_2 dX9_worth_14 ?_
    rcases (show w = 0 ∨ w = 1 ∨ w = 2 ∨ w = 3 ∨ (w < 0 ∨ 3 < w) from by omega) with h15 | h15 | h15 | h15 | h15
    · refine z_swIn (tgt := 44) 0 (by first | omega | exact hR.1 _ _ (by decide) | exact zrng_toInt _) (by omega) dX9_worth_15 (by decide) rfl (by decide) ?_
      refine zaload_3_0 dX9_worth_44 ?_
      refine ziload_3_1 dX9_worth_45 ?_
      refine zc_Model_223 rfl dX9_worth_46 (by decide) (Nat.le_of_ble_eq_true rfl) (r11'.rare (n := n') (by omega)) (fun r46 M46 hq46 => ?_)
      refine z_withR (fun hR => ?_)
      have e46 := hq46.1.symm
      subst e46
      have q46 := hq46.2
      refine z_iret rfl ?_ dX9_worth_49
      unfold fWorth
      rw [if_pos y, Int.toNat_natCast, if_pos (by omega)]
      exact ⟨q46, f11.up (by decide), r11'.1⟩
    · refine z_swIn (tgt := 50) 1 (by first | omega | exact hR.1 _ _ (by decide) | exact zrng_toInt _) (by omega) dX9_worth_15 (by decide) rfl (by decide) ?_
      refine zaload_3_0 dX9_worth_50 ?_
      refine ziload_3_1 dX9_worth_51 ?_
      refine zc_Model_226 rfl dX9_worth_52 (by decide) (Nat.le_of_ble_eq_true rfl) (sp_Model_servesOf M11 B n' r11' (by omega)) (fun r52 M52 hq52 => ?_)
      refine z_withR (fun hR => ?_)
      have e52 := hq52.1.symm
      subst e52
      have q52 := hq52.2
      refine z_iret rfl ?_ dX9_worth_55
      unfold fWorth
      rw [if_pos y, Int.toNat_natCast, if_neg (by omega), if_pos (by omega)]
      exact ⟨q52, f11.up (by decide), r11'.1⟩
    · refine z_swIn (tgt := 56) 2 (by first | omega | exact hR.1 _ _ (by decide) | exact zrng_toInt _) (by omega) dX9_worth_15 (by decide) rfl (by decide) ?_
      refine zaload_3_0 dX9_worth_56 ?_
      refine ziload_3_1 dX9_worth_57 ?_
      refine zc_Model_229 rfl dX9_worth_58 (by decide) (Nat.le_of_ble_eq_true rfl) (sp_Model_deepOf M11 B n' r11' (by omega)) (fun r58 M58 hq58 => ?_)
      refine z_withR (fun hR => ?_)
      obtain ⟨f58, q58⟩ := hq58
      refine z_iret rfl ?_ dX9_worth_61
      unfold fWorth
      rw [if_pos y, Int.toNat_natCast, if_neg (by omega), if_neg (by omega), if_pos (by omega)]
      exact ⟨q58, f11.tr f58 (by decide) (by decide), (r11'.fr f58 (by decide)).1⟩
    · refine z_swIn (tgt := 62) 3 (by first | omega | exact hR.1 _ _ (by decide) | exact zrng_toInt _) (by omega) dX9_worth_15 (by decide) rfl (by decide) ?_
      refine zaload_3_0 dX9_worth_62 ?_
      refine ziload_3_1 dX9_worth_63 ?_
      refine zc_Model_232 rfl dX9_worth_64 (by decide) (Nat.le_of_ble_eq_true rfl) (sp_Model_worthOf M11 B n' r11' (by omega)) (fun r64 M64 hq64 => ?_)
      refine z_withR (fun hR => ?_)
      obtain ⟨f64, q64⟩ := hq64
      subst q64
      refine zk_Model_149 rfl dX9_worth_67 ?_
      refine z_iadd dX9_worth_69 ?_
      refine z_iret rfl ?_ dX9_worth_70
      unfold fWorth
      rw [if_pos y, Int.toNat_natCast, if_neg (by omega), if_neg (by omega), if_neg (by omega), if_pos (by omega)]
      exact ⟨rfl, f11.tr f64 (by decide) (by decide), (r11'.fr f64 (by decide)).1⟩
    · refine z_swOut (tgt := 71) (by first | omega | exact hR.1 _ _ (by decide) | exact zrng_toInt _) dX9_worth_15 (by omega) (by decide) ?_
      refine z_bipush dX9_worth_71 (by decide) ?_
      refine z_iret rfl ?_ dX9_worth_73
      unfold fWorth
      rw [if_pos y, if_neg (by omega), if_neg (by omega), if_neg (by omega), if_neg (by omega)]
      exact ⟨rfl, f11.up (by decide), r11'.1⟩
  · have y := or_no q2 h5
    refine z_iconst dX9_worth_8 ?_
    refine z_iret rfl ?_ dX9_worth_9
    unfold fWorth
    rw [if_neg y]
    exact ⟨rfl, zfr.rf, h⟩
theorem sp_Model_best (M : zMem) (B : Nat → Nat → Nat) (h : abR M B) : zSp zd_Model_best 5 [zr 9] M (fun r M' => rOK M M' B r (bst B (B 6 0))) := by
  refine zSp_in 2 [some (zr 9), none, none] rfl rfl (by decide +kernel) rfl ?_
  refine z_withR (fun hR => ?_)
  obtain ⟨post, hpost⟩ : ∃ post : Int → zMem → Prop, post = (fun (r : Int) M' => rOK M M' B r (bst B (B 6 0))) := ⟨_, rfl⟩
  rw [← hpost]
  have lp : ∀ (c i : Nat) (M1 : zMem), i + c = B 6 0 → zfr [9, 40, 41, 42, 43, 45, 46, 47, 52, 53, 55] M M1 → rowsR M1 B → zV zd_Model_best 5 9 [some (zr 9), some (zi (bst B i)), some (zi i)] [] M1 post := by
    intro c
    induction c with
    | zero =>
      intro i M1 hi f1 r1
      have hsz := r1.1.1.2.2.2.2.1.1
      have n12 := r1.n12
      have hbr := bst_rng (B := B) i
      refine z_withR (fun hR => ?_)
      refine ziload_3_2 dX9_best_9 ?_
      refine zaload_3_0 dX9_best_10 ?_
      refine zg_Model_187 rfl dX9_best_11 ?_
      refine z_top hsz ?_
      refine z_icmp_ge (tgt := 57) (by first | omega | exact hR.1 _ _ (by decide) | exact zrng_toInt _) (by first | omega | exact hR.1 _ _ (by decide) | exact zrng_toInt _) dX9_best_14 (by decide) (fun h14 => ?_) (fun h14 => ?_)
      · refine ziload_3_1 dX9_best_57 ?_
        refine z_iret rfl ?_ dX9_best_58
        rw [hpost]
        exact ⟨by rw [show i = B 6 0 by omega], f1.up (by decide), r1.1⟩
      · omega
    | succ c ih =>
      intro i M1 hi f1 r1
      have hsz := r1.1.1.2.2.2.2.1.1
      have n12 := r1.n12
      have hA := (r1.1.1.2.2.2.2.1.2.2.2 i (by omega)).2.2.2
      have hb := wO_bdR r1.1.1 (n := i) (by omega)
      have hb2 : -40000 ≤ wO B i ∧ wO B i ≤ 40000 := by unfold wO; omega
      have hbr := bst_rng (B := B) i
      have hst : bst B (i + 1) = if bAw B i = true ∧ (bst B i = -9 ∨ wO B (bst B i).toNat < wO B i) then (i : Int) else bst B i := rfl
      have kN := fun M2 f2 r2 => ih (i + 1) M2 (by omega) f2 r2
      rw [hst] at kN
      have keep : ∀ M2, zfr [9, 40, 41, 42, 43, 45, 46, 47, 52, 53, 55] M M2 → rowsR M2 B → ¬ (bAw B i = true ∧ (bst B i = -9 ∨ wO B (bst B i).toNat < wO B i)) → zV zd_Model_best 5 50 [some (zr 9), some (zi (bst B i)), some (zi i)] [zi (bst B i)] M2 post := by
        intro M2 f2 r2 hno
        rw [if_neg hno] at kN
        refine z_withR (fun hR => ?_)
        refine zistore_3_1 dX9_best_50 ?_
        refine ziinc_3_2 dX9_best_51 ?_
        refine z_goto (tgt := 9) dX9_best_54 (by decide) ?_
        exact kN M2 f2 r2
      have take : ∀ M2, zfr [9, 40, 41, 42, 43, 45, 46, 47, 52, 53, 55] M M2 → rowsR M2 B → (bAw B i = true ∧ (bst B i = -9 ∨ wO B (bst B i).toNat < wO B i)) → zV zd_Model_best 5 50 [some (zr 9), some (zi (bst B i)), some (zi i)] [zi i] M2 post := by
        intro M2 f2 r2 hyes
        rw [if_pos hyes] at kN
        refine z_withR (fun hR => ?_)
        refine zistore_3_1 dX9_best_50 ?_
        refine ziinc_3_2 dX9_best_51 ?_
        refine z_goto (tgt := 9) dX9_best_54 (by decide) ?_
        exact kN M2 f2 r2
      refine z_withR (fun hR => ?_)
      refine ziload_3_2 dX9_best_9 ?_
      refine zaload_3_0 dX9_best_10 ?_
      refine zg_Model_187 rfl dX9_best_11 ?_
      refine z_top hsz ?_
      refine z_icmp_ge (tgt := 57) (by first | omega | exact hR.1 _ _ (by decide) | exact zrng_toInt _) (by first | omega | exact hR.1 _ _ (by decide) | exact zrng_toInt _) dX9_best_14 (by decide) (fun h14 => ?_) (fun h14 => ?_)
      · omega
      · refine zaload_3_0 dX9_best_17 ?_
        refine zg_Model_63 rfl dX9_best_18 ?_
        refine ziload_3_2 dX9_best_21 ?_
        refine z_zald _ rfl (by decide) (by decide) rfl (by omega) dX9_best_22 ?_
        refine z_top hA ?_
        refine z_if_ne (tgt := 49) (by split <;> decide) dX9_best_23 (by decide) (fun h23 => ?_) (fun h23 => ?_)
        · have hno : ¬ bAw B i = true := fun z => by rw [if_pos z] at h23; exact absurd rfl h23
          refine ziload_3_1 dX9_best_49 ?_
          first
            | exact keep M1 f1 r1 (fun z => hno z.1)
            | exact take M1 f1 r1 ⟨hyes, Or.inl h29⟩
            | exact take M39 f39' r39' ⟨hyes, Or.inr (by rw [et]; omega)⟩
            | (refine keep M39 f39' r39' (fun z => ?_)
               rcases z.2 with q | q
               · exact h29 q
               · rw [et] at q; omega)
        · have hyes : bAw B i = true := by by_cases z : bAw B i = true; exact z; rw [if_neg z] at h23; exact absurd h23 (by decide)
          refine ziload_3_1 dX9_best_26 ?_
          refine z_bipush dX9_best_27 (by decide) ?_
          refine z_icmp_eq (tgt := 45) (by first | omega | exact hR.1 _ _ (by decide) | exact zrng_toInt _) (by first | omega | exact hR.1 _ _ (by decide) | exact zrng_toInt _) dX9_best_29 (by decide) (fun h29 => ?_) (fun h29 => ?_)
          · refine ziload_3_2 dX9_best_45 ?_
            refine z_goto (tgt := 50) dX9_best_46 (by decide) ?_
            first
              | exact keep M1 f1 r1 (fun z => hno z.1)
              | exact take M1 f1 r1 ⟨hyes, Or.inl h29⟩
              | exact take M39 f39' r39' ⟨hyes, Or.inr (by rw [et]; omega)⟩
              | (refine keep M39 f39' r39' (fun z => ?_)
                 rcases z.2 with q | q
                 · exact h29 q
                 · rw [et] at q; omega)
          · obtain ⟨b', eb⟩ : ∃ b' : Nat, bst B i = b' := ⟨(bst B i).toNat, by omega⟩
            have hbb := wO_bdR r1.1.1 (n := b') (by omega)
            have hbb2 : -40000 ≤ wO B b' ∧ wO B b' ≤ 40000 := by unfold wO; omega
            have et : (bst B i).toNat = b' := by rw [eb]; exact Int.toNat_natCast _
            refine zaload_3_0 dX9_best_32 ?_
            refine ziload_3_2 dX9_best_33 ?_
            refine zc_Model_232 rfl dX9_best_34 (by decide) (Nat.le_of_ble_eq_true rfl) (sp_Model_worthOf M1 B i r1 (by omega)) (fun r34 M34 hq34 => ?_)
            refine z_withR (fun hR => ?_)
            obtain ⟨f34, q34⟩ := hq34
            have r34' := r1.fr f34 (by decide)
            subst q34
            have spb : zSp zd_Model_worthOf 3 [zr 9, zi (bst B i)] M34 (fun r M' => zfr [55] M34 M' ∧ r = wO B b') := by
              rw [eb]
              exact sp_Model_worthOf M34 B b' r34' (by omega)
            refine zaload_3_0 dX9_best_37 ?_
            refine ziload_3_1 dX9_best_38 ?_
            refine zc_Model_232 rfl dX9_best_39 (by decide) (Nat.le_of_ble_eq_true rfl) (spb) (fun r39 M39 hq39 => ?_)
            refine z_withR (fun hR => ?_)
            obtain ⟨f39, q39⟩ := hq39
            have r39' := r34'.fr f39 (by decide)
            have f39' : zfr [9, 40, 41, 42, 43, 45, 46, 47, 52, 53, 55] M M39 := (f1.tr f34 (fun _ z => z) (by decide)).tr f39 (fun _ z => z) (by decide)
            subst q39
            refine z_icmp_le (tgt := 49) (by first | omega | exact hR.1 _ _ (by decide) | exact zrng_toInt _) (by first | omega | exact hR.1 _ _ (by decide) | exact zrng_toInt _) dX9_best_42 (by decide) (fun h42 => ?_) (fun h42 => ?_)
            · refine ziload_3_1 dX9_best_49 ?_
              first
                | exact keep M1 f1 r1 (fun z => hno z.1)
                | exact take M1 f1 r1 ⟨hyes, Or.inl h29⟩
                | exact take M39 f39' r39' ⟨hyes, Or.inr (by rw [et]; omega)⟩
                | (refine keep M39 f39' r39' (fun z => ?_)
                   rcases z.2 with q | q
                   · exact h29 q
                   · rw [et] at q; omega)
            · refine ziload_3_2 dX9_best_45 ?_
              refine z_goto (tgt := 50) dX9_best_46 (by decide) ?_
              first
                | exact keep M1 f1 r1 (fun z => hno z.1)
                | exact take M1 f1 r1 ⟨hyes, Or.inl h29⟩
                | exact take M39 f39' r39' ⟨hyes, Or.inr (by rw [et]; omega)⟩
                | (refine keep M39 f39' r39' (fun z => ?_)
                   rcases z.2 with q | q
                   · exact h29 q
                   · rw [et] at q; omega)
  refine zaload_3_0 dX9_best_0 ?_
  refine zc_Model_206 rfl dX9_best_1 (by decide) (Nat.le_of_ble_eq_true rfl) (sp_Model_layRows M B h) (fun r1 M1 hq1 => ?_)
  refine z_withR (fun hR => ?_)
  obtain ⟨f1, r1'⟩ := hq1
  refine z_bipush dX9_best_4 (by decide) ?_
  refine zistore_3_1 dX9_best_6 ?_
  refine z_iconst dX9_best_7 ?_
  refine zistore_3_2 dX9_best_8 ?_
  exact lp (B 6 0) 0 M1 (by omega) (f1.up (by decide)) r1'
