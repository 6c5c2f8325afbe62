theorem abR.other {M M' : zMem} {B B' : Nat → Nat → Nat} (h : abR M B) (hf : zfr [51, 54] M M') (hb : ∀ c, c ≠ 10 → c ≠ 11 → B' c = B c) (haw : ∀ i, i < B 6 0 → M' 51 i = if bAw B' i then 0 else 1) (hpt : ∀ i, i < 3 → M' 54 i = B' 11 i ∧ B' 11 i ≤ 9) : abR M' B' := by
  obtain ⟨⟨h1, h2, h3, h4, h5, h6, h7⟩, hc⟩ := h
  have b0 := hb 0 (by decide) (by decide)
  have b1 := hb 1 (by decide) (by decide)
  have b2 := hb 2 (by decide) (by decide)
  have b3 := hb 3 (by decide) (by decide)
  have b4 := hb 4 (by decide) (by decide)
  have b5 := hb 5 (by decide) (by decide)
  have b6 := hb 6 (by decide) (by decide)
  have b7 := hb 7 (by decide) (by decide)
  have b8 := hb 8 (by decide) (by decide)
  have b9 := hb 9 (by decide) (by decide)
  have b12 := hb 12 (by decide) (by decide)
  have b13 := hb 13 (by decide) (by decide)
  have b14 := hb 14 (by decide) (by decide)
  have g9 : M' 9 = M 9 := hf 9 (by decide)
  refine ⟨⟨?_, ?_, ?_, ?_, ?_, hpt, ?_⟩, (hc.fr hf (by decide) (by rw [g9]) (by rw [g9]) (by rw [g9])).re (by rw [b3]) (by rw [b6]; exact Nat.le_refl _) (fun n k l hl => by rw [b1, b2, b4, b5]) (fun e i hi => by unfold bS; rw [b1, b2, b7, b8, b9])⟩
  · rw [b0, b1, b2]; exact h1.fr hf (by rw [g9]) (by decide) (by decide)
  · rw [b0, b1, b2]; exact h2
  · rw [b0, b1, b2, hf 37 (by decide)]; exact h3
  · rw [b0, b3, b4, b5]; exact h4.fr hf (by rw [g9]) (by decide) (by decide)
  · unfold ntR
    rw [b0, b6, b7, b8, b9, g9, hf 48 (by decide), hf 49 (by decide), hf 50 (by decide)]
    exact ⟨h5.1, h5.2.1, h5.2.2.1, fun i hi => ⟨(h5.2.2.2 i hi).1, (h5.2.2.2 i hi).2.1, (h5.2.2.2 i hi).2.2.1, haw i hi⟩⟩
  · unfold slR
    rw [b0, b12, b13, b14, hf 56 (by decide), hf 57 (by decide), hf 58 (by decide)]; exact h7
theorem sp_Model_weigh (M : zMem) (B : Nat → Nat → Nat) (w v : Int) (hw : zrng w) (hv : zrng v) (h : abR M B) : zSp zd_Model_weigh 2 [zr 9, zi w, zi v] M (fun r M' => rOK M M' (gWeigh B w v) r (fWeigh B w v)) := by
  refine zSp_in 1 [some (zr 9), some (zi w), some (zi v), none] rfl rfl (by decide +kernel) rfl ?_
  refine z_withR (fun hR => ?_)
  have hpt := h.1.2.2.2.2.2.1
  have bad : ¬ (inR w 3 ∧ inR v 10) → rOK M M (gWeigh B w v) (-2) (fWeigh B w v) := by
    intro hn
    unfold fWeigh gWeigh
    rw [if_neg hn, if_neg hn]
    exact ⟨rfl, zfr.rf, h⟩
  refine ziload_4_1 dX9_weigh_0 ?_
  refine z_i2l (by first | omega | exact hR.1 _ _ (by decide) | exact zrng_toInt _) dX9_weigh_1 ?_
  refine z_lconst 0 dX9_weigh_2 rfl ?_
  refine zk_Model_219 rfl dX9_weigh_3 ?_
  refine zc_Model_105 rfl dX9_weigh_6 (by decide) (Nat.le_of_ble_eq_true rfl) (sp_Model_in M w 0 2 hw (by decide) (by decide)) (fun r6 M6 hq6 => ?_)
  refine z_withR (fun hR => ?_)
  have e6 := hq6.1.symm
  subst e6
  have q6 := hq6.2
  have q6 := or_if q6
  refine z_if_eq (tgt := 24) (or_rng q6) dX9_weigh_9 (by decide) (fun h9 => ?_) (fun h9 => ?_)
  · have y := or_no q6 h9
    have hno : ¬ (inR w 3 ∧ inR v 10) := fun z => y ⟨z.1.1, by omega⟩
    refine z_bipush dX9_weigh_24 (by decide) ?_
    refine z_iret rfl ?_ dX9_weigh_26
    exact bad hno
  · have y := or_yes q6 h9
    refine ziload_4_2 dX9_weigh_12 ?_
    refine z_i2l (by first | omega | exact hR.1 _ _ (by decide) | exact zrng_toInt _) dX9_weigh_13 ?_
    refine z_lconst 0 dX9_weigh_14 rfl ?_
    refine zk_Model_221 rfl dX9_weigh_15 ?_
    refine zc_Model_105 rfl dX9_weigh_18 (by decide) (Nat.le_of_ble_eq_true rfl) (sp_Model_in M v 0 9 hv (by decide) (by decide)) (fun r18 M18 hq18 => ?_)
    refine z_withR (fun hR => ?_)
    have e18 := hq18.1.symm
    subst e18
    have q18 := hq18.2
    have q18 := or_if q18
    refine z_if_ne (tgt := 27) (or_rng q18) dX9_weigh_21 (by decide) (fun h21 => ?_) (fun h21 => ?_)
    · have y2 := or_yes q18 h21
      have hin : inR w 3 ∧ inR v 10 := ⟨⟨by omega, by omega⟩, by omega, by omega⟩
      obtain ⟨w', rfl⟩ : ∃ w' : Nat, w = w' := ⟨w.toNat, by omega⟩
      obtain ⟨v', rfl⟩ : ∃ v' : Nat, v = v' := ⟨v.toNat, by omega⟩
      refine zaload_4_0 dX9_weigh_27 ?_
      refine zg_Model_72 rfl dX9_weigh_28 ?_
      refine ziload_4_1 dX9_weigh_31 ?_
      refine z_iald _ rfl (by decide) (by decide) rfl (by omega) dX9_weigh_32 ?_
      refine zistore_4_3 dX9_weigh_33 ?_
      refine zaload_4_0 dX9_weigh_34 ?_
      refine zg_Model_72 rfl dX9_weigh_35 ?_
      refine ziload_4_1 dX9_weigh_38 ?_
      refine ziload_4_2 dX9_weigh_39 ?_
      refine z_iast _ (by decide) rfl (by decide) (by decide) rfl (by omega) (by first | omega | exact hR.1 _ _ (by decide) | exact zrng_toInt _) dX9_weigh_40 ?_
      refine z_withR (fun hR => ?_)
      refine ziload_4_3 dX9_weigh_41 ?_
      refine z_iret rfl ?_ dX9_weigh_42
      unfold fWeigh gWeigh
      rw [if_pos hin, if_pos hin, Int.toNat_natCast, Int.toNat_natCast]
      refine ⟨(hpt w' (by omega)).1, zfr.rf.mu (by decide), h.other (zfr.rf.mu (by decide)) (fun c h10 h11 => if_neg h11) (fun i hi => ?_) (fun i hi => ?_)⟩
      · rw [zmu_other _ _ _ _ (by decide)]
        exact (h.1.2.2.2.2.1.2.2.2 i hi).2.2.2
      · show _ = ((fup (B 11) w' v' i : Nat) : Int) ∧ fup (B 11) w' v' i ≤ 9
        by_cases e : i = w'
        · rw [e, zmu_same, fup_s]; exact ⟨rfl, by omega⟩
        · rw [zmu_ne _ _ _ _ e, fup_n e]; exact hpt i hi
    · have y2 := or_no q18 h21
      have hno : ¬ (inR w 3 ∧ inR v 10) := fun z => y2 ⟨z.2.1, by omega⟩
      refine z_bipush dX9_weigh_24 (by decide) ?_
      refine z_iret rfl ?_ dX9_weigh_26
      exact bad hno
theorem sp_Model_wake (M : zMem) (B : Nat → Nat → Nat) (n : Int) (o : Bool) (hn : zrng n) (h : abR M B) : zSp zd_Model_wake 2 [zr 9, zi n, zi (if o then 1 else 0)] M (fun r M' => rOK M M' (gWake B n o) r (fWake B n)) := by
  refine zSp_in 1 [some (zr 9), some (zi n), some (zi (if o then 1 else 0)), none] rfl rfl (by decide +kernel) rfl ?_
  refine z_withR (fun hR => ?_)
  obtain ⟨n1, n12, nw, n4⟩ := id h.1.2.2.2.2.1
  have goal : ∀ n' : Nat, n' < B 6 0 → ∀ x : Int, x = (if o then 0 else 1) → abR (zmu M 51 n' x) (bs B 10 n' (if o then 1 else 0)) := by
    intro n' hn' x hx
    refine h.other (zfr.rf.mu (by decide)) (fun c h10 h11 => if_neg h10) (fun i hi => ?_) (fun i hi => ?_)
    · unfold bAw
      show _ = if (fup (B 10) n' (if o then 1 else 0) i == 1) = true then (0 : Int) else 1
      by_cases e : i = n'
      · rw [e, zmu_same, fup_s, hx]
        cases o <;> rfl
      · rw [zmu_ne _ _ _ _ e, fup_n e]
        exact (n4 i hi).2.2.2
    · rw [zmu_other _ _ _ _ (by decide)]
      exact h.1.2.2.2.2.2.1 i hi
  refine zaload_4_0 dX9_wake_0 ?_
  refine ziload_4_1 dX9_wake_1 ?_
  refine zc_Model_192 rfl dX9_wake_2 (by decide) (Nat.le_of_ble_eq_true rfl) (sp_Model_isNotion M n (B 6 0) hn n1 (by omega)) (fun r2 M2 hq2 => ?_)
  refine z_withR (fun hR => ?_)
  have e2 := hq2.1.symm
  subst e2
  have q2 := hq2.2
  have q2 := or_if q2
  refine z_if_ne (tgt := 10) (or_rng q2) dX9_wake_5 (by decide) (fun h5 => ?_) (fun h5 => ?_)
  · have y := or_yes q2 h5
    obtain ⟨n', rfl⟩ : ∃ n' : Nat, n = n' := ⟨n.toNat, by omega⟩
    have hA := (n4 n' (by omega)).2.2.2
    refine zaload_4_0 dX9_wake_10 ?_
    refine zg_Model_63 rfl dX9_wake_11 ?_
    refine ziload_4_1 dX9_wake_14 ?_
    refine z_zald _ rfl (by decide) (by decide) rfl (by omega) dX9_wake_15 ?_
    refine z_top hA ?_
    refine z_if_eq (tgt := 23) (by split <;> decide) dX9_wake_16 (by decide) (fun h16 => ?_) (fun h16 => ?_)
    · have hz : bAw B n' = true := by by_cases z : bAw B n' = true; exact z; rw [if_neg z] at h16; exact absurd h16 (by decide)
      have hans : (1 : Int) = if bAw B n' then 1 else 0 := by rw [hz]; rfl
      refine z_iconst dX9_wake_23 ?_
      refine zistore_4_3 dX9_wake_24 ?_
      refine zaload_4_0 dX9_wake_25 ?_
      refine zg_Model_63 rfl dX9_wake_26 ?_
      refine ziload_4_1 dX9_wake_29 ?_
      refine ziload_4_2 dX9_wake_30 ?_
      refine z_if_ne (tgt := 38) (by cases o <;> decide) dX9_wake_31 (by decide) (fun h31 => ?_) (fun h31 => ?_)
      · have hx : (0 : Int) = if o then 0 else 1 := by cases o; exact absurd rfl h31; rfl
        refine z_iconst dX9_wake_38 ?_
        refine z_zast _ (by decide) rfl (by decide) (by decide) rfl (by omega) (by first | omega | exact hR.1 _ _ (by decide) | exact zrng_toInt _) dX9_wake_39 ?_
        refine z_withR (fun hR => ?_)
        refine ziload_4_3 dX9_wake_40 ?_
        refine z_iret rfl ?_ dX9_wake_41
        unfold fWake gWake
        rw [if_pos y, if_pos y, Int.toNat_natCast]
        exact ⟨hans, zfr.rf.mu (by decide), goal n' (by omega) _ hx⟩
      · have hx : (1 : Int) = if o then 0 else 1 := by cases o; rfl; exact absurd h31 (by decide)
        refine z_iconst dX9_wake_34 ?_
        refine z_goto (tgt := 39) dX9_wake_35 (by decide) ?_
        refine z_zast _ (by decide) rfl (by decide) (by decide) rfl (by omega) (by first | omega | exact hR.1 _ _ (by decide) | exact zrng_toInt _) dX9_wake_39 ?_
        refine z_withR (fun hR => ?_)
        refine ziload_4_3 dX9_wake_40 ?_
        refine z_iret rfl ?_ dX9_wake_41
        unfold fWake gWake
        rw [if_pos y, if_pos y, Int.toNat_natCast]
        exact ⟨hans, zfr.rf.mu (by decide), goal n' (by omega) _ hx⟩
    · have hz : ¬ bAw B n' = true := fun z => by rw [if_pos z] at h16; exact absurd rfl h16
      have hans : (0 : Int) = if bAw B n' then 1 else 0 := by rw [if_neg hz]
      refine z_iconst dX9_wake_19 ?_
      refine z_goto (tgt := 24) dX9_wake_20 (by decide) ?_
      refine zistore_4_3 dX9_wake_24 ?_
      refine zaload_4_0 dX9_wake_25 ?_
      refine zg_Model_63 rfl dX9_wake_26 ?_
      refine ziload_4_1 dX9_wake_29 ?_
      refine ziload_4_2 dX9_wake_30 ?_
      refine z_if_ne (tgt := 38) (by cases o <;> decide) dX9_wake_31 (by decide) (fun h31 => ?_) (fun h31 => ?_)
      · have hx : (0 : Int) = if o then 0 else 1 := by cases o; exact absurd rfl h31; rfl
        refine z_iconst dX9_wake_38 ?_
        refine z_zast _ (by decide) rfl (by decide) (by decide) rfl (by omega) (by first | omega | exact hR.1 _ _ (by decide) | exact zrng_toInt _) dX9_wake_39 ?_
        refine z_withR (fun hR => ?_)
        refine ziload_4_3 dX9_wake_40 ?_
        refine z_iret rfl ?_ dX9_wake_41
        unfold fWake gWake
        rw [if_pos y, if_pos y, Int.toNat_natCast]
        exact ⟨hans, zfr.rf.mu (by decide), goal n' (by omega) _ hx⟩
      · have hx : (1 : Int) = if o then 0 else 1 := by cases o; rfl; exact absurd h31 (by decide)
        refine z_iconst dX9_wake_34 ?_
        refine z_goto (tgt := 39) dX9_wake_35 (by decide) ?_
        refine z_zast _ (by decide) rfl (by decide) (by decide) rfl (by omega) (by first | omega | exact hR.1 _ _ (by decide) | exact zrng_toInt _) dX9_wake_39 ?_
        refine z_withR (fun hR => ?_)
        refine ziload_4_3 dX9_wake_40 ?_
        refine z_iret rfl ?_ dX9_wake_41
        unfold fWake gWake
        rw [if_pos y, if_pos y, Int.toNat_natCast]
        exact ⟨hans, zfr.rf.mu (by decide), goal n' (by omega) _ hx⟩
  · have y := or_no q2 h5
    refine z_iconst dX9_wake_8 ?_
    refine z_iret rfl ?_ dX9_wake_9
    unfold fWake gWake
    rw [if_neg y, if_neg y]
    exact ⟨rfl, zfr.rf, h⟩
