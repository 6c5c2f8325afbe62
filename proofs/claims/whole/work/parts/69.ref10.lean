noncomputable def tA (B : Nat → Nat → Nat) (n k : Nat) : Nat := fb_ct (fun k => eSz (lE (wK B) k) == n) k
theorem tA_sub {B : Nat → Nat → Nat} {n E : Nat} (hE : E ≤ 3341) : tA B n (fb_ct (wK B) E) = fb_ct (fun e => wK B e && (eSz e == n)) E :=
  (ct_sub (s := wK B) (g := fun e => eSz e == n) (f := lE (wK B)) (P := E) (fun e he hq => lE_at (by omega) hq)).symm
theorem sz_out {n e : Nat} (hn : okn n) (he : e < 3341) (h : e < sT n ∨ sT n + cC n ≤ e) : (eSz e == n) = false := by
  refine beq_eq_false_iff_ne.mpr (fun z => ?_)
  have := eSz_at he
  rw [z] at this
  omega
theorem sz_ct {B : Nat → Nat → Nat} {n j : Nat} (hn : okn n) (hj : j ≤ cC n) : fb_ct (fun e => wK B e && (eSz e == n)) (sT n + j) = fb_ct (fun j => wK B (sT n + j)) j := by
  have hs := sT_cC hn
  rw [fb_ct_split]
  have h0 : fb_ct (fun e => wK B e && (eSz e == n)) (sT n) = 0 := fb_ct_zero.mpr (fun e he => by rw [sz_out hn (by omega) (Or.inl he)]; simp)
  rw [h0, Nat.zero_add]
  refine fb_ct_cong (fun i hi => ?_)
  rw [(eSz_of hn (show i < cC n by omega)).1]
  simp
theorem sz_all {B : Nat → Nat → Nat} {n : Nat} (hn : okn n) : tA B n (lT B) = fb_ct (fun j => wK B (sT n + j)) (cC n) := by
  have hs := sT_cC hn
  have h1 : tA B n (lT B) = fb_ct (fun e => wK B e && (eSz e == n)) 3341 := tA_sub (Nat.le_refl _)
  rw [h1, show 3341 = (sT n + cC n) + (3341 - (sT n + cC n)) by omega, fb_ct_split, sz_ct hn (Nat.le_refl _)]
  have h0 : fb_ct (fun k => wK B (sT n + cC n + k) && (eSz (sT n + cC n + k) == n)) (3341 - (sT n + cC n)) = 0 := fb_ct_zero.mpr (fun e he => by rw [sz_out hn (by omega) (Or.inr (by omega))]; simp)
  rw [h0]
  rfl
theorem sp_Model_number (M : zMem) (B : Nat → Nat → Nat) (n i : Int) (hn : zrng n) (hi : zrng i) (h : abR M B) : zSp zd_Model_number 4 [zr 9, zi n, zi i] M (fun r M' => rOK M M' B r (fNum B n i)) := by
  refine zSp_in 2 [some (zr 9), some (zi n), some (zi i), none, none] rfl rfl (by decide +kernel) rfl ?_
  refine z_withR (fun hR => ?_)
  have hlT := lT_le B
  obtain ⟨post, hpost⟩ : ∃ post : Int → zMem → Prop, post = (fun (r : Int) M' => rOK M M' B r (fNum B n i)) := ⟨_, rfl⟩
  rw [← hpost]
  have lp : ∀ (M1 : zMem) (n' : Nat), okn n' → laid M1 B → (∀ r : Int, pNum B n' i r → post r M1) → ∀ (c k : Nat), k + c = lT B → (∀ k', k' < k → eSz (lE (wK B) k') = n' → ¬ (tA B n' k' : Int) = i) → zV zd_Model_number 4 19 [some (zr 9), some (zi n'), some (zi i), some (zi (tA B n' k : Nat)), some (zi k)] [] M1 post := by
    intro M1 n' hn' hl done c
    have hs := hl.2.1
    have hn3 := hn'.le
    have hsc := sT_cC hn'
    induction c with
    | zero =>
      intro k hk hno
      refine z_withR (fun hR => ?_)
      refine ziload_5_4 dX9_number_19 ?_
      refine zaload_5_0 dX9_number_21 ?_
      refine zg_Model_157 rfl dX9_number_22 ?_
      refine z_top hs ?_
      refine z_icmp_ge (tgt := 69) (by first | omega | exact hR.1 _ _ (by decide) | exact zrng_toInt _) (by first | omega | exact hR.1 _ _ (by decide) | exact zrng_toInt _) dX9_number_25 (by decide) (fun h25 => ?_) (fun h25 => ?_)
      · refine z_bipush dX9_number_69 (by decide) ?_
        refine z_iret rfl ?_ dX9_number_71
        refine done _ (Or.inr ⟨rfl, fun j hj hq => ?_⟩)
        have h1 : fb_ct (wK B) (sT n' + j) < lT B := by
          have e1 := fb_ct_succ (wK B) (sT n' + j)
          rw [if_pos hq] at e1
          have e2 : fb_ct (wK B) (sT n' + j + 1) ≤ lT B := fb_ct_mono _ (by omega)
          omega
        have h2 := hno (fb_ct (wK B) (sT n' + j)) (by omega) (by rw [lE_at (by omega) hq]; exact (eSz_of hn' hj).1)
        rw [tA_sub (by omega), sz_ct hn' (by omega)] at h2
        exact h2
      · omega
    | succ c ih =>
      intro k hk hno
      obtain ⟨q1, q2, q3⟩ := lE_okA (q := wK B) (j := k) (by show k < lT B; omega)
      obtain ⟨p1, p2, p3, p4⟩ := pe_ok q1
      have eL := hl.2.2 k (by omega)
      have hs3 := (okn_eSz (lE (wK B) k)).le
      have htk : tA B n' k ≤ k := fb_ct_le _ _
      have hst : tA B n' (k + 1) = tA B n' k + (if eSz (lE (wK B) k) == n' then 1 else 0) := fb_ct_succ _ _
      have kk := ih (k + 1) (by omega)
      refine z_withR (fun hR => ?_)
      refine ziload_5_4 dX9_number_19 ?_
      refine zaload_5_0 dX9_number_21 ?_
      refine zg_Model_157 rfl dX9_number_22 ?_
      refine z_top hs ?_
      refine z_icmp_ge (tgt := 69) (by first | omega | exact hR.1 _ _ (by decide) | exact zrng_toInt _) (by first | omega | exact hR.1 _ _ (by decide) | exact zrng_toInt _) dX9_number_25 (by decide) (fun h25 => ?_) (fun h25 => ?_)
      · omega
      · refine zaload_5_0 dX9_number_28 ?_
        refine zg_Model_48 rfl dX9_number_29 ?_
        refine ziload_5_4 dX9_number_32 ?_
        refine z_iald _ rfl (by decide) (by decide) rfl (by omega) dX9_number_34 ?_
        refine z_top eL ?_
        refine zc_Model_120 rfl dX9_number_35 (by decide) (Nat.le_of_ble_eq_true rfl) (sp_Model_sizeAt M1 (pe (lE (wK B) k)) p1) (fun r35 M35 hq35 => ?_)
        refine z_withR (fun hR => ?_)
        have e35 := hq35.1.symm
        subst e35
        have q35 := hq35.2
        rw [p2] at q35
        subst q35
        refine ziload_5_1 dX9_number_38 ?_
        refine z_icmp_ne (tgt := 63) (by first | omega | exact hR.1 _ _ (by decide) | exact zrng_toInt _) (by first | omega | exact hR.1 _ _ (by decide) | exact zrng_toInt _) dX9_number_39 (by decide) (fun h39 => ?_) (fun h39 => ?_)
        · rw [hst, if_neg (by simp; omega)] at kk
          have k2 := kk (fun k' hk' hz => by
            by_cases e : k' = k
            · rw [e] at hz; omega
            · exact hno k' (by omega) hz)
          refine ziinc_5_4 dX9_number_63 ?_
          refine z_goto (tgt := 19) dX9_number_66 (by decide) ?_
          exact k2
        · have hz : eSz (lE (wK B) k) = n' := by omega
          rw [hst, if_pos (by simp [hz])] at kk
          refine ziload_5_3 dX9_number_42 ?_
          refine ziload_5_2 dX9_number_43 ?_
          refine z_icmp_ne (tgt := 60) (by first | omega | exact hR.1 _ _ (by decide) | exact zrng_toInt _) (by first | omega | exact hR.1 _ _ (by decide) | exact zrng_toInt _) dX9_number_44 (by decide) (fun h44 => ?_) (fun h44 => ?_)
          · have k2 := kk (fun k' hk' hz => by
              by_cases e : k' = k
              · rw [e]; exact h44
              · exact hno k' (by omega) hz)
            refine ziinc_5_3 dX9_number_60 ?_
            refine ziinc_5_4 dX9_number_63 ?_
            refine z_goto (tgt := 19) dX9_number_66 (by decide) ?_
            exact k2
          · refine zaload_5_0 dX9_number_47 ?_
            refine zg_Model_48 rfl dX9_number_48 ?_
            refine ziload_5_4 dX9_number_51 ?_
            refine z_iald _ rfl (by decide) (by decide) rfl (by omega) dX9_number_53 ?_
            refine z_top eL ?_
            refine ziload_5_1 dX9_number_54 ?_
            refine zc_Model_127 rfl dX9_number_55 (by decide) (Nat.le_of_ble_eq_true rfl) (sp_Model_baseOf M1 n' hn') (fun r55 M55 hq55 => ?_)
            refine z_withR (fun hR => ?_)
            have e55 := hq55.1.symm
            subst e55
            have q55 := hq55.2
            subst q55
            refine z_isub dX9_number_58 ?_
            refine z_iret rfl ?_ dX9_number_59
            refine done _ (Or.inl ?_)
            have ha := eSz_at q1
            rw [hz] at ha
            have ej : sT n' + (lE (wK B) k - sT n') = lE (wK B) k := by omega
            refine ⟨lE (wK B) k - sT n', ha.2, by rw [ej]; exact q2, ?_, ?_⟩
            · rw [← sz_ct hn' (by omega), ej, ← tA_sub (by omega), q3]; exact h44
            · rw [ej]
              have hpe : pe (lE (wK B) k) = pb n' + eK (lE (wK B) k) := by show pb (eSz (lE (wK B) k)) + _ = _; rw [hz]
              rw [hpe]; omega
  refine ziload_5_1 dX9_number_0 ?_
  refine zc_Model_169 rfl dX9_number_1 (by decide) (Nat.le_of_ble_eq_true rfl) (sp_Model_isSize M n hn) (fun r1 M1 hq1 => ?_)
  refine z_withR (fun hR => ?_)
  have e1 := hq1.1.symm
  subst e1
  have q1 := hq1.2
  have q1 := or_if q1
  refine z_if_ne (tgt := 10) (or_rng q1) dX9_number_4 (by decide) (fun h4 => ?_) (fun h4 => ?_)
  · have y := or_yes q1 h4
    obtain ⟨n', rfl⟩ : ∃ n' : Nat, n = n' := ⟨n.toNat, by omega⟩
    have hn' : okn n' := by unfold okn; omega
    refine zaload_5_0 dX9_number_10 ?_
    refine zc_Model_175 rfl dX9_number_11 (by decide) (Nat.le_of_ble_eq_true rfl) (sp_Model_layAll M B h.1.1 h.1.2.2.2.1 h.cache) (fun r11 M11 hq11 => ?_)
    refine z_withR (fun hR => ?_)
    obtain ⟨f12, g12, i12, l12, c12⟩ := hq11
    have hab := h.after f12 g12 i12 l12 c12
    refine z_iconst dX9_number_14 ?_
    refine zistore_5_3 dX9_number_15 ?_
    refine z_iconst dX9_number_16 ?_
    refine zistore_5_4 dX9_number_17 ?_
    exact lp M11 n' hn' l12 (fun r hr => by rw [hpost]; exact ⟨by unfold fNum; rw [if_pos y, Int.toNat_natCast]; exact un_eq pNum_one hr, f12.up (by decide), hab⟩) (lT B) 0 (by omega) (fun k' h => absurd h (Nat.not_lt_zero _))
  · have y := or_no q1 h4
    refine z_bipush dX9_number_7 (by decide) ?_
    refine z_iret rfl ?_ dX9_number_9
    rw [hpost]
    unfold fNum
    rw [if_neg y]
    exact ⟨rfl, zfr.rf, h⟩
