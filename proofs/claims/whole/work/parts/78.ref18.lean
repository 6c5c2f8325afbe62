theorem flB_ct2 {q : Nat → Bool} {F : Nat → Nat → Bool} {w j : Nat} (hj : j ≤ lQ q w) : fb_ct (flB q F) (lP q w + j) = lC q F w + fb_ct (F w) j := by
  rw [fb_ct_split, flB_ct]
  congr 1
  exact fb_ct_cong (fun i hi => flB_at (by omega))
theorem sp_Model_look (M : zMem) (B : Nat → Nat → Nat) (a b i : Int) (ha : zrng a) (hb : zrng b) (hi : zrng i) (h : abR M B) : zSp zd_Model_look 5 [zr 9, zi a, zi b, zi i] M (fun r M' => rOK M M' B r (fLook B a b i)) := by
  refine zSp_in 2 [some (zr 9), some (zi a), some (zi b), some (zi i), none, none] rfl rfl (by decide +kernel) rfl ?_
  refine z_withR (fun hR => ?_)
  obtain ⟨n1, n12, nw, n4⟩ := id h.1.2.2.2.2.1
  have hl40 := lS_le (wK B)
  have hpa := lP_all (wK B)
  obtain ⟨post, hpost⟩ : ∃ post : Int → zMem → Prop, post = (fun (r : Int) M' => rOK M M' B r (fLook B a b i)) := ⟨_, rfl⟩
  rw [← hpost]
  have bad : ¬ (inR a (B 6 0) ∧ inR b (B 6 0)) → post (-1) M := by
    intro hn
    rw [hpost]
    unfold fLook
    rw [if_neg hn]
    exact ⟨rfl, zfr.rf, h⟩
  have lp : ∀ (M1 : zMem) (a' b' : Nat), a = a' → b = b' → a' < B 6 0 → b' < B 6 0 → zfr [9, 40, 41, 42, 43, 45, 46, 47, 52, 53] M M1 → rowsR M1 B → ∀ (c k : Nat), k + c = lP (wK B) (lS (wK B)) → (∀ k', k' < k → flB (wK B) (butF B a' b') k' = true → ¬ ((fb_ct (flB (wK B) (butF B a' b')) k' : Nat) : Int) = i) → zV zd_Model_look 5 28 [some (zr 9), some (zi a'), some (zi b'), some (zi i), some (zi (fb_ct (flB (wK B) (butF B a' b')) k : Nat)), some (zi k)] [] M1 post := by
    intro M1 a' b' ea eb hna hnb f1 r1 c
    subst ea
    subst eb
    have done : ∀ r : Int, pLook B (butF B a' b') i r → post r M1 := by
      intro r hr
      rw [hpost]
      unfold fLook
      rw [if_pos ⟨⟨by omega, by omega⟩, by omega, by omega⟩, Int.toNat_natCast, Int.toNat_natCast]
      exact ⟨un_eq pLook_one hr, f1.up (by decide), r1.1⟩
    have hp := r1.at
    have hH : ∀ k, k < lP (wK B) (lS (wK B)) → flB (wK B) (butF B a' b') k = (rwF B a' k && !rwF B b' k) := by
      intro k hk
      obtain ⟨w, j, h1, h2, rfl⟩ := flat_ex hk
      unfold rwF
      rw [flB_at h2, flB_at h2, flB_at h2]
      rfl
    obtain ⟨H, eH⟩ : ∃ H, H = flB (wK B) (butF B a' b') := ⟨_, rfl⟩
    rw [← eH] at hH
    rw [← eH]
    induction c with
    | zero =>
      intro k hk hj
      refine z_withR (fun hR => ?_)
      refine ziload_6_5 dX9_look_28 ?_
      refine zaload_6_0 dX9_look_30 ?_
      refine zg_Model_51 rfl dX9_look_31 ?_
      refine zaload_6_0 dX9_look_34 ?_
      refine zc_Model_181 rfl dX9_look_35 (by decide) (Nat.le_of_ble_eq_true rfl) (sp_Model_onList M1 B r1.2.1.2.1) (fun r35 M35 hq35 => ?_)
      refine z_withR (fun hR => ?_)
      have e35 := hq35.1.symm
      subst e35
      have q35 := hq35.2
      subst q35
      refine z_iald _ rfl (by decide) (by decide) rfl (by omega) dX9_look_38 ?_
      refine z_top hp ?_
      refine z_icmp_ge (tgt := 92) (by first | omega | exact hR.1 _ _ (by decide) | exact zrng_toInt _) (by first | omega | exact hR.1 _ _ (by decide) | exact zrng_toInt _) dX9_look_39 (by decide) (fun h39 => ?_) (fun h39 => ?_)
      · refine z_bipush dX9_look_92 (by decide) ?_
        refine z_iret rfl ?_ dX9_look_94
        refine done _ (Or.inr ⟨rfl, fun w j hw hj2 hF => ?_⟩)
        have hlt := lP_lt hw hj2
        have k1 := hj (lP (wK B) w + j) (by omega)
        rw [eH, flB_at hj2, flB_ct2 (by omega)] at k1
        exact k1 hF
      · omega
    | succ c ih =>
      intro k hk hj
      have hle := fb_ct_le H k
      have e1 := fb_ct_succ H k
      have eHk := hH k (by omega)
      refine z_withR (fun hR => ?_)
      refine ziload_6_5 dX9_look_28 ?_
      refine zaload_6_0 dX9_look_30 ?_
      refine zg_Model_51 rfl dX9_look_31 ?_
      refine zaload_6_0 dX9_look_34 ?_
      refine zc_Model_181 rfl dX9_look_35 (by decide) (Nat.le_of_ble_eq_true rfl) (sp_Model_onList M1 B r1.2.1.2.1) (fun r35 M35 hq35 => ?_)
      refine z_withR (fun hR => ?_)
      have e35 := hq35.1.symm
      subst e35
      have q35 := hq35.2
      subst q35
      refine z_iald _ rfl (by decide) (by decide) rfl (by omega) dX9_look_38 ?_
      refine z_top hp ?_
      refine z_icmp_ge (tgt := 92) (by first | omega | exact hR.1 _ _ (by decide) | exact zrng_toInt _) (by first | omega | exact hR.1 _ _ (by decide) | exact zrng_toInt _) dX9_look_39 (by decide) (fun h39 => ?_) (fun h39 => ?_)
      · omega
      · refine zaload_6_0 dX9_look_42 ?_
        refine zg_Model_69 rfl dX9_look_43 ?_
        refine z_sipush dX9_look_46 (by decide) ?_
        refine ziload_6_1 dX9_look_49 ?_
        refine z_imul dX9_look_50 ?_
        refine ziload_6_5 dX9_look_51 ?_
        refine z_iadd dX9_look_53 ?_
        refine z_zald (360 * a' + k) rfl (by decide) (by decide) (by omega) (by omega) dX9_look_54 ?_
        refine z_top (r1.fl hna k (by omega)) ?_
        refine z_if_eq (tgt := 86) (b01_r _) dX9_look_55 (by decide) (fun h55 => ?_) (fun h55 => ?_)
        · have hHk : H k = false := by rw [eHk, b01_f h55]; rfl
          rw [hHk] at e1
          refine ziinc_6_5 dX9_look_86 ?_
          refine z_goto (tgt := 28) dX9_look_89 (by decide) ?_
          first
            | (have e2 : fb_ct H (k + 1) = fb_ct H k := e1
               rw [← e2]
               exact ih (k + 1) (by omega) (fun k' hk' hz => by
                 by_cases e : k' = k
                 · rw [e, hHk] at hz; exact absurd hz (by decide)
                 · exact hj k' (by omega) hz))
            | exact ih (k + 1) (by omega) (fun k' hk' hz => by
                 by_cases e : k' = k
                 · rw [e]; exact h77
                 · exact hj k' (by omega) hz)
        · refine zaload_6_0 dX9_look_58 ?_
          refine zg_Model_69 rfl dX9_look_59 ?_
          refine z_sipush dX9_look_62 (by decide) ?_
          refine ziload_6_2 dX9_look_65 ?_
          refine z_imul dX9_look_66 ?_
          refine ziload_6_5 dX9_look_67 ?_
          refine z_iadd dX9_look_69 ?_
          refine z_zald (360 * b' + k) rfl (by decide) (by decide) (by omega) (by omega) dX9_look_70 ?_
          refine z_top (r1.fl hnb k (by omega)) ?_
          refine z_if_ne (tgt := 86) (b01_r _) dX9_look_71 (by decide) (fun h71 => ?_) (fun h71 => ?_)
          · have hHk : H k = false := by rw [eHk, b01_t h55, b01_t h71]; rfl
            rw [hHk] at e1
            refine ziinc_6_5 dX9_look_86 ?_
            refine z_goto (tgt := 28) dX9_look_89 (by decide) ?_
            first
              | (have e2 : fb_ct H (k + 1) = fb_ct H k := e1
                 rw [← e2]
                 exact ih (k + 1) (by omega) (fun k' hk' hz => by
                   by_cases e : k' = k
                   · rw [e, hHk] at hz; exact absurd hz (by decide)
                   · exact hj k' (by omega) hz))
              | exact ih (k + 1) (by omega) (fun k' hk' hz => by
                   by_cases e : k' = k
                   · rw [e]; exact h77
                   · exact hj k' (by omega) hz)
          · have hHk : H k = true := by rw [eHk, b01_t h55, b01_f h71]; rfl
            rw [hHk] at e1
            refine ziload_6_4 dX9_look_74 ?_
            refine ziload_6_3 dX9_look_76 ?_
            refine z_icmp_ne (tgt := 83) (by first | omega | exact hR.1 _ _ (by decide) | exact zrng_toInt _) (by first | omega | exact hR.1 _ _ (by decide) | exact zrng_toInt _) dX9_look_77 (by decide) (fun h77 => ?_) (fun h77 => ?_)
            · refine ziinc_6_4 dX9_look_83 ?_
              rw [show ((fb_ct H k : Nat) : Int) + 1 = ((fb_ct H (k + 1) : Nat) : Int) by rw [e1]; rfl]
              refine ziinc_6_5 dX9_look_86 ?_
              refine z_goto (tgt := 28) dX9_look_89 (by decide) ?_
              first
                | (have e2 : fb_ct H (k + 1) = fb_ct H k := e1
                   rw [← e2]
                   exact ih (k + 1) (by omega) (fun k' hk' hz => by
                     by_cases e : k' = k
                     · rw [e, hHk] at hz; exact absurd hz (by decide)
                     · exact hj k' (by omega) hz))
                | exact ih (k + 1) (by omega) (fun k' hk' hz => by
                     by_cases e : k' = k
                     · rw [e]; exact h77
                     · exact hj k' (by omega) hz)
            · refine ziload_6_5 dX9_look_80 ?_
              refine z_iret rfl ?_ dX9_look_82
              obtain ⟨w, j, h1, h2, h3⟩ := flat_ex (show k < lP (wK B) (lS (wK B)) by omega)
              refine done _ (Or.inl ⟨w, j, h1, h2, ?_, ?_, by rw [h3]⟩)
              · rw [eH, h3, flB_at h2] at hHk; exact hHk
              · rw [← flB_ct2 (by omega), ← eH, ← h3]; exact h77
  refine zaload_6_0 dX9_look_0 ?_
  refine ziload_6_1 dX9_look_1 ?_
  refine zc_Model_192 rfl dX9_look_2 (by decide) (Nat.le_of_ble_eq_true rfl) (sp_Model_isNotion M a (B 6 0) ha n1 (by omega)) (fun r2 M2 hq2 => ?_)
  refine z_withR (fun hR => ?_)
  have e2 := hq2.1.symm
  subst e2
  have q2 := hq2.2
  have q2 := or_if q2
  refine z_if_eq (tgt := 16) (or_rng q2) dX9_look_5 (by decide) (fun h5 => ?_) (fun h5 => ?_)
  · have n5 := or_no q2 h5
    refine z_iconst dX9_look_16 ?_
    refine z_iret rfl ?_ dX9_look_17
    first
      | exact bad (fun z => n5 z.1)
      | exact bad (fun z => n16 z.2)
  · have n5 := or_yes q2 h5
    refine zaload_6_0 dX9_look_8 ?_
    refine ziload_6_2 dX9_look_9 ?_
    refine zc_Model_192 rfl dX9_look_10 (by decide) (Nat.le_of_ble_eq_true rfl) (sp_Model_isNotion M b (B 6 0) hb n1 (by omega)) (fun r10 M10 hq10 => ?_)
    refine z_withR (fun hR => ?_)
    have e10 := hq10.1.symm
    subst e10
    have q10 := hq10.2
    have q10 := or_if q10
    refine z_if_ne (tgt := 18) (or_rng q10) dX9_look_13 (by decide) (fun h13 => ?_) (fun h13 => ?_)
    · have n16 := or_yes q10 h13
      obtain ⟨a', ea⟩ : ∃ a' : Nat, a = a' := ⟨a.toNat, by omega⟩
      obtain ⟨b', eb⟩ : ∃ b' : Nat, b = b' := ⟨b.toNat, by omega⟩
      refine zaload_6_0 dX9_look_18 ?_
      refine zc_Model_206 rfl dX9_look_19 (by decide) (Nat.le_of_ble_eq_true rfl) (sp_Model_layRows M B h) (fun r19 M19 hq19 => ?_)
      refine z_withR (fun hR => ?_)
      obtain ⟨f11, r11'⟩ := hq19
      refine z_iconst dX9_look_22 ?_
      refine zistore_6_4 dX9_look_23 ?_
      refine z_iconst dX9_look_25 ?_
      refine zistore_6_5 dX9_look_26 ?_
      have k := lp M19 a' b' ea eb (by omega) (by omega) f11 r11' _ 0 (Nat.zero_add _) (fun j h => absurd h (Nat.not_lt_zero _))
      rw [← ea, ← eb] at k
      exact k
    · have n16 := or_no q10 h13
      refine z_iconst dX9_look_16 ?_
      refine z_iret rfl ?_ dX9_look_17
      first
        | exact bad (fun z => n5 z.1)
        | exact bad (fun z => n16 z.2)
theorem lE_count {q : Nat → Bool} {w e : Nat} (hw : w < fb_ct q 3341) (he : e < lE q w) (hq : q e = true) : ∃ w', w' < w ∧ lE q w' = e := by
  obtain ⟨h1, h2, h3⟩ := lE_okA hw
  refine ⟨fb_ct q e, ?_, lE_at (by omega) hq⟩
  have hm := fb_ct_mono q (show e + 1 ≤ lE q w from he)
  rw [fb_ct_succ, if_pos hq] at hm
  omega
theorem sp_Model_deny (M : zMem) (B : Nat → Nat → Nat) (a b : Int) (ha : zrng a) (hb : zrng b) (h : abR M B) : zSp zd_Model_deny 4 [zr 9, zi a, zi b] M (fun r M' => rOK M M' B r (fDeny B a b)) := by
  refine zSp_in 3 [some (zr 9), some (zi a), some (zi b), none, none, none] rfl rfl (by decide +kernel) rfl ?_
  refine z_withR (fun hR => ?_)
  obtain ⟨n1, n12, nw, n4⟩ := id h.1.2.2.2.2.1
  obtain ⟨post, hpost⟩ : ∃ post : Int → zMem → Prop, post = (fun (r : Int) M' => rOK M M' B r (fDeny B a b)) := ⟨_, rfl⟩
  rw [← hpost]
  have bad : ¬ (inR a (B 6 0) ∧ inR b (B 6 0)) → post (-1) M := by
    intro hn
    rw [hpost]
    unfold fDeny
    rw [if_neg hn]
    exact ⟨rfl, zfr.rf, h⟩
  have hlT := lT_le B
  have lp : ∀ (M0 : zMem) (a' b' m : Nat), a = a' → b = b' → a' < B 6 0 → b' < B 6 0 → m = max a' b' → zfr [9, 40, 41, 42, 43, 45, 46] M M0 → abR M0 B → laid M0 B → ∀ (c w : Nat) (M1 : zMem) (l5 : Option zAV), w + c = lT B → zfr [9, 40, 41, 42, 52] M0 M1 → (∀ i, i ≠ 8 → M1 9 i = M0 9 i) → (∀ w', w' < w → dnB B a' b' (lE (wK B) w') = false) → zV zd_Model_deny 4 36 [some (zr 9), some (zi a'), some (zi b'), some (zi m), some (zi w), l5] [] M1 post := by
    intro M0 a' b' m ea eb hna hnb hm f0 a0 d0 c
    subst ea
    subst eb
    have hmN : m < B 6 0 := by omega
    have fin : ∀ M1, zfr [9, 40, 41, 42, 52] M0 M1 → (∀ i, i ≠ 8 → M1 9 i = M0 9 i) → ∀ r : Int, r = (if fnd (dnB B a' b') 3341 = -9 then -9 else (eSz (fnd (dnB B a' b') 3341).toNat : Int) * 100000 + (eK (fnd (dnB B a' b') 3341).toNat : Int)) → post r M1 := by
      intro M1 f1 g1 r hr
      rw [hpost]
      unfold fDeny
      rw [if_pos ⟨⟨by omega, by omega⟩, by omega, by omega⟩, Int.toNat_natCast, Int.toNat_natCast]
      exact ⟨hr, f0.tr f1 (by decide) (by decide), a0.1.fr f1 (by decide) (g1 _ (by decide)) (g1 _ (by decide)) (g1 _ (by decide)), a0.2.fr f1 (by decide) (g1 _ (by decide)) (g1 _ (by decide)) (g1 _ (by decide))⟩
    induction c with
    | zero =>
      intro w M1 l5 hw f1 g1 hd
      have d1 := d0.fr f1 (g1 _ (by decide)) (by decide) (by decide)
      have dl := d1.2.1
      refine z_withR (fun hR => ?_)
      refine ziload_6_4 dX9_deny_36 ?_
      refine zaload_6_0 dX9_deny_38 ?_
      refine zg_Model_157 rfl dX9_deny_39 ?_
      refine z_top dl ?_
      refine z_icmp_ge (tgt := 160) (by first | omega | exact hR.1 _ _ (by decide) | exact zrng_toInt _) (by first | omega | exact hR.1 _ _ (by decide) | exact zrng_toInt _) dX9_deny_42 (by decide) (fun h42 => ?_) (fun h42 => ?_)
      · refine z_bipush dX9_deny_160 (by decide) ?_
        refine z_iret rfl ?_ dX9_deny_162
        refine fin M1 f1 g1 _ ?_
        have e : fnd (dnB B a' b') 3341 = -9 := fnd_none (fun e he => by
          refine Bool.eq_false_iff.mpr (fun hz => ?_)
          have hk := (dnB_iff.mp hz).1
          have hc := lE_at he hk
          have hlt : fb_ct (wK B) e < lT B := by
            have := fb_ct_mono (wK B) (show e + 1 ≤ 3341 from he)
            rw [fb_ct_succ, if_pos hk] at this
            unfold lT
            omega
          have := hd (fb_ct (wK B) e) (by omega)
          rw [hc, hz] at this
          exact absurd this (by decide))
        rw [if_pos e]
      · omega
    | succ c ih =>
      intro w M1 l5 hw f1 g1 hd
      have d1 := d0.fr f1 (g1 _ (by decide)) (by decide) (by decide)
      have dl := d1.2.1
      have hwT : w < lT B := by omega
      obtain ⟨hE, hE2, hE3⟩ := lE_okA (q := wK B) (j := w) hwT
      obtain ⟨p1, p2, p3, p4⟩ := pe_ok hE
      have eL := d1.2.2 w (by omega)
      have hpe : pe (lE (wK B) w) = pb (eSz (lE (wK B) w)) + eK (lE (wK B) w) := rfl
      obtain ⟨n, hn⟩ : ∃ n, n = eSz (lE (wK B) w) := ⟨_, rfl⟩
      obtain ⟨k, hk⟩ : ∃ k, k = eK (lE (wK B) w) := ⟨_, rfl⟩
      have hok : okn n := by rw [hn]; exact okn_eSz _
      have hsq := sq_le hok
      have hn3 := hok.le
      have hSo : ∀ i, bS B (lE (wK B) w) i = so (B 1) (B 2) (B 7) (B 8) (B 9) n k i := by
        intro i
        rw [hn, hk]
        rfl
      have hfound : ∀ j, j < n * n → bS B (lE (wK B) w) a' j = true → bS B (lE (wK B) w) b' j = false → fnd (dnB B a' b') 3341 = ((lE (wK B) w : Nat) : Int) := by
        intro j hj h1 h2
        refine fnd_at (fun e he => ?_) (dnB_iff.mpr ⟨hE2, j, by rw [← hn]; exact hj, h1, h2⟩) hE
        refine Bool.eq_false_iff.mpr (fun hz => ?_)
        obtain ⟨w', q1, q2⟩ := lE_count hwT he (dnB_iff.mp hz).1
        have := hd w' q1
        rw [q2, hz] at this
        exact absurd this (by decide)
      have kloop : ∀ (c j : Nat) (M2 : zMem), j + c = n * n → zfr [9, 40, 41, 42, 52] M0 M2 → (∀ i, i ≠ 8 → M2 9 i = M0 9 i) → tbR M2 n k → hrR M2 (so (B 1) (B 2) (B 7) (B 8) (B 9) n k) n (m + 1) → (∀ j', j' < j → ¬ (bS B (lE (wK B) w) a' j' = true ∧ bS B (lE (wK B) w) b' j' = false)) → zV zd_Model_deny 4 80 [some (zr 9), some (zi a'), some (zi b'), some (zi m), some (zi w), some (zi j)] [] M2 post := by
        intro c
        induction c with
        | zero =>
          intro j M2 hj f2 g2 t2 h2 u2
          have hs := t2.1
          refine z_withR (fun hR => ?_)
          refine ziload_6_5 dX9_deny_80 ?_
          refine zaload_6_0 dX9_deny_82 ?_
          refine zg_Model_124 rfl dX9_deny_83 ?_
          refine z_top hs ?_
          refine zaload_6_0 dX9_deny_86 ?_
          refine zg_Model_124 rfl dX9_deny_87 ?_
          refine z_top hs ?_
          refine z_imul dX9_deny_90 ?_
          rw [← Int.natCast_mul]
          refine z_icmp_ge (tgt := 154) (by first | omega | exact hR.1 _ _ (by decide) | exact zrng_toInt _) (by first | omega | exact hR.1 _ _ (by decide) | exact zrng_toInt _) dX9_deny_91 (by decide) (fun h91 => ?_) (fun h91 => ?_)
          · refine ziinc_6_4 dX9_deny_154 ?_
            refine z_goto (tgt := 36) dX9_deny_157 (by decide) ?_
            refine ih (w + 1) M2 _ (by omega) f2 g2 (fun w' hw' => ?_)
            by_cases e : w' = w
            · rw [e]
              refine Bool.eq_false_iff.mpr (fun hz => ?_)
              obtain ⟨_, j', k1, k2, k3⟩ := dnB_iff.mp hz
              rw [← hn] at k1
              exact u2 j' (by omega) ⟨k2, k3⟩
            · exact hd w' (by omega)
          · omega
        | succ c ihk =>
          intro j M2 hj f2 g2 t2 h2 u2
          have hs := t2.1
          have hA := h2 a' (by omega) j (by omega)
          have hB := h2 b' (by omega) j (by omega)
          rw [← hSo] at hA hB
          have eL2 : M2 46 w = ((pb n + k : Nat) : Int) := by
            rw [f2 46 (by decide), d0.2.2 w hwT, hpe, hn, hk]
          have hpb := pb_le hok
          have hkl := (eK_ok hE).1
          rw [← hk, ← hn] at hkl
          have hcn : cN n ≤ 19683 := by rcases hok with h | h | h <;> rw [h] <;> decide
          have next : ¬ (bS B (lE (wK B) w) a' j = true ∧ bS B (lE (wK B) w) b' j = false) → zV zd_Model_deny 4 80 [some (zr 9), some (zi a'), some (zi b'), some (zi m), some (zi w), some (zi ((j : Int) + 1))] [] M2 post := by
            intro hno
            exact ihk (j + 1) M2 (by omega) f2 g2 t2 h2 (fun j' hj' => by
              by_cases e : j' = j
              · rw [e]; exact hno
              · exact u2 j' (by omega))
          refine z_withR (fun hR => ?_)
          refine ziload_6_5 dX9_deny_80 ?_
          refine zaload_6_0 dX9_deny_82 ?_
          refine zg_Model_124 rfl dX9_deny_83 ?_
          refine z_top hs ?_
          refine zaload_6_0 dX9_deny_86 ?_
          refine zg_Model_124 rfl dX9_deny_87 ?_
          refine z_top hs ?_
          refine z_imul dX9_deny_90 ?_
          rw [← Int.natCast_mul]
          refine z_icmp_ge (tgt := 154) (by first | omega | exact hR.1 _ _ (by decide) | exact zrng_toInt _) (by first | omega | exact hR.1 _ _ (by decide) | exact zrng_toInt _) dX9_deny_91 (by decide) (fun h91 => ?_) (fun h91 => ?_)
          · omega
          · refine zaload_6_0 dX9_deny_94 ?_
            refine zg_Model_66 rfl dX9_deny_95 ?_
            refine z_bipush dX9_deny_98 (by decide) ?_
            refine ziload_6_1 dX9_deny_100 ?_
            refine z_imul dX9_deny_101 ?_
            refine ziload_6_5 dX9_deny_102 ?_
            refine z_iadd dX9_deny_104 ?_
            refine z_zald (9 * a' + j) rfl (by decide) (by decide) (by omega) (by omega) dX9_deny_105 ?_
            refine z_top hA ?_
            refine z_if_eq (tgt := 148) (b01_r _) dX9_deny_106 (by decide) (fun h106 => ?_) (fun h106 => ?_)
            · have hba := b01_f h106
              have hno : ¬ (bS B (lE (wK B) w) a' j = true ∧ bS B (lE (wK B) w) b' j = false) := fun z => by rw [hba] at z; exact absurd z.1 (by decide)
              refine ziinc_6_5 dX9_deny_148 ?_
              refine z_goto (tgt := 80) dX9_deny_151 (by decide) ?_
              exact next hno
            · have hba := b01_t h106
              refine zaload_6_0 dX9_deny_109 ?_
              refine zg_Model_66 rfl dX9_deny_110 ?_
              refine z_bipush dX9_deny_113 (by decide) ?_
              refine ziload_6_2 dX9_deny_115 ?_
              refine z_imul dX9_deny_116 ?_
              refine ziload_6_5 dX9_deny_117 ?_
              refine z_iadd dX9_deny_119 ?_
              refine z_zald (9 * b' + j) rfl (by decide) (by decide) (by omega) (by omega) dX9_deny_120 ?_
              refine z_top hB ?_
              refine z_if_ne (tgt := 148) (b01_r _) dX9_deny_121 (by decide) (fun h121 => ?_) (fun h121 => ?_)
              · have hbb := b01_t h121
                have hno : ¬ (bS B (lE (wK B) w) a' j = true ∧ bS B (lE (wK B) w) b' j = false) := fun z => by rw [hbb] at z; exact absurd z.2 (by decide)
                refine ziinc_6_5 dX9_deny_148 ?_
                refine z_goto (tgt := 80) dX9_deny_151 (by decide) ?_
                exact next hno
              · have hbb := b01_f h121
                refine zk_Model_149 rfl dX9_deny_124 ?_
                refine zaload_6_0 dX9_deny_126 ?_
                refine zg_Model_124 rfl dX9_deny_127 ?_
                refine z_top hs ?_
                refine z_imul dX9_deny_130 ?_
                refine zaload_6_0 dX9_deny_131 ?_
                refine zg_Model_48 rfl dX9_deny_132 ?_
                refine ziload_6_4 dX9_deny_135 ?_
                refine z_iald _ rfl (by decide) (by decide) rfl (by omega) dX9_deny_137 ?_
                refine z_top eL2 ?_
                refine z_iadd dX9_deny_138 ?_
                refine zaload_6_0 dX9_deny_139 ?_
                refine zg_Model_124 rfl dX9_deny_140 ?_
                refine z_top hs ?_
                refine zc_Model_127 rfl dX9_deny_143 (by decide) (Nat.le_of_ble_eq_true rfl) (sp_Model_baseOf M2 n hok) (fun r143 M143 hq143 => ?_)
                refine z_withR (fun hR => ?_)
                have e143 := hq143.1.symm
                subst e143
                have q143 := hq143.2
                subst q143
                refine z_isub dX9_deny_146 ?_
                refine z_iret rfl ?_ dX9_deny_147
                refine fin M2 f2 g2 _ ?_
                rw [hfound j (by omega) hba hbb, if_neg (by omega), Int.toNat_natCast, ← hn, ← hk]
                omega
      have nloop : ∀ (c i : Nat) (M2 : zMem), i + c = m + 1 → zfr [9, 40, 41, 42, 52] M0 M2 → (∀ i, i ≠ 8 → M2 9 i = M0 9 i) → tbR M2 n k → hrR M2 (so (B 1) (B 2) (B 7) (B 8) (B 9) n k) n i → zV zd_Model_deny 4 59 [some (zr 9), some (zi a'), some (zi b'), some (zi m), some (zi w), some (zi i)] [] M2 post := by
        intro c
        induction c with
        | zero =>
          intro i M2 hi f2 g2 t2 h2
          have ei : i = m + 1 := by omega
          rw [ei] at h2
          refine z_withR (fun hR => ?_)
          refine ziload_6_5 dX9_deny_59 ?_
          refine ziload_6_3 dX9_deny_61 ?_
          refine z_icmp_gt (tgt := 77) (by first | omega | exact hR.1 _ _ (by decide) | exact zrng_toInt _) (by first | omega | exact hR.1 _ _ (by decide) | exact zrng_toInt _) dX9_deny_62 (by decide) (fun h62 => ?_) (fun h62 => ?_)
          · refine z_iconst dX9_deny_77 ?_
            refine zistore_6_5 dX9_deny_78 ?_
            exact kloop (n * n) 0 M2 (by omega) f2 g2 t2 h2 (fun j h => absurd h (Nat.not_lt_zero _))
          · omega
        | succ c ihn =>
          intro i M2 hi f2 g2 t2 h2
          have a2 := a0.1.fr f2 (by decide) (g2 _ (by decide)) (g2 _ (by decide)) (g2 _ (by decide))
          refine z_withR (fun hR => ?_)
          refine ziload_6_5 dX9_deny_59 ?_
          refine ziload_6_3 dX9_deny_61 ?_
          refine z_icmp_gt (tgt := 77) (by first | omega | exact hR.1 _ _ (by decide) | exact zrng_toInt _) (by first | omega | exact hR.1 _ _ (by decide) | exact zrng_toInt _) dX9_deny_62 (by decide) (fun h62 => ?_) (fun h62 => ?_)
          · omega
          · refine zaload_6_0 dX9_deny_65 ?_
            refine ziload_6_5 dX9_deny_66 ?_
            refine zc_Model_203 rfl dX9_deny_68 (by decide) (Nat.le_of_ble_eq_true rfl) (sp_Model_layHere M2 B n k i hok t2 a2.1 a2.2.2.2.2.1 (by omega) h2) (fun r68 M68 hq68 => ?_)
            refine z_withR (fun hR => ?_)
            obtain ⟨f55, h55⟩ := hq68
            refine ziinc_6_5 dX9_deny_71 ?_
            refine z_goto (tgt := 59) dX9_deny_74 (by decide) ?_
            exact ihn (i + 1) M68 (by omega) (f2.tr f55 (by decide) (by decide)) (fun i' hi' => by rw [f55 9 (by decide)]; exact g2 i' hi') (t2.fr f55 (by rw [f55 9 (by decide)]) (by decide)) h55
      refine z_withR (fun hR => ?_)
      refine ziload_6_4 dX9_deny_36 ?_
      refine zaload_6_0 dX9_deny_38 ?_
      refine zg_Model_157 rfl dX9_deny_39 ?_
      refine z_top dl ?_
      refine z_icmp_ge (tgt := 160) (by first | omega | exact hR.1 _ _ (by decide) | exact zrng_toInt _) (by first | omega | exact hR.1 _ _ (by decide) | exact zrng_toInt _) dX9_deny_42 (by decide) (fun h42 => ?_) (fun h42 => ?_)
      · omega
      · refine zaload_6_0 dX9_deny_45 ?_
        refine zaload_6_0 dX9_deny_46 ?_
        refine zg_Model_48 rfl dX9_deny_47 ?_
        refine ziload_6_4 dX9_deny_50 ?_
        refine z_iald _ rfl (by decide) (by decide) rfl (by omega) dX9_deny_52 ?_
        refine z_top eL ?_
        refine zc_Model_138 rfl dX9_deny_53 (by decide) (Nat.le_of_ble_eq_true rfl) (sp_Model_layWorld M1 (pe (lE (wK B) w)) p1) (fun r53 M53 hq53 => ?_)
        refine z_withR (fun hR => ?_)
        obtain ⟨f40, g40, t40⟩ := hq53
        rw [p2, p3, ← hn, ← hk] at t40
        refine z_iconst dX9_deny_56 ?_
        refine zistore_6_5 dX9_deny_57 ?_
        exact nloop (m + 1) 0 M53 (by omega) (f1.tr f40 (by decide) (by decide)) (fun i' hi' => by rw [g40 i' hi']; exact g1 i' hi') t40 (fun i' hi' => absurd hi' (Nat.not_lt_zero _))
  refine zaload_6_0 dX9_deny_0 ?_
  refine ziload_6_1 dX9_deny_1 ?_
  refine zc_Model_192 rfl dX9_deny_2 (by decide) (Nat.le_of_ble_eq_true rfl) (sp_Model_isNotion M a (B 6 0) ha n1 (by omega)) (fun r2 M2 hq2 => ?_)
  refine z_withR (fun hR => ?_)
  have e2 := hq2.1.symm
  subst e2
  have q2 := hq2.2
  have q2 := or_if q2
  refine z_if_eq (tgt := 16) (or_rng q2) dX9_deny_5 (by decide) (fun h5 => ?_) (fun h5 => ?_)
  · have n5 := or_no q2 h5
    refine z_iconst dX9_deny_16 ?_
    refine z_iret rfl ?_ dX9_deny_17
    first
      | exact bad (fun z => n5 z.1)
      | exact bad (fun z => n16 z.2)
  · have n5 := or_yes q2 h5
    refine zaload_6_0 dX9_deny_8 ?_
    refine ziload_6_2 dX9_deny_9 ?_
    refine zc_Model_192 rfl dX9_deny_10 (by decide) (Nat.le_of_ble_eq_true rfl) (sp_Model_isNotion M b (B 6 0) hb n1 (by omega)) (fun r10 M10 hq10 => ?_)
    refine z_withR (fun hR => ?_)
    have e10 := hq10.1.symm
    subst e10
    have q10 := hq10.2
    have q10 := or_if q10
    refine z_if_ne (tgt := 18) (or_rng q10) dX9_deny_13 (by decide) (fun h13 => ?_) (fun h13 => ?_)
    · have n16 := or_yes q10 h13
      obtain ⟨a', ea⟩ : ∃ a' : Nat, a = a' := ⟨a.toNat, by omega⟩
      obtain ⟨b', eb⟩ : ∃ b' : Nat, b = b' := ⟨b.toNat, by omega⟩
      refine zaload_6_0 dX9_deny_18 ?_
      refine zc_Model_175 rfl dX9_deny_19 (by decide) (Nat.le_of_ble_eq_true rfl) (sp_Model_layAll M B h.1.1 h.1.2.2.2.1 h.cache) (fun r19 M19 hq19 => ?_)
      refine z_withR (fun hR => ?_)
      obtain ⟨f12, g12, i12, l12, c12⟩ := hq19
      have hab := h.after f12 g12 i12 l12 c12
      refine ziload_6_1 dX9_deny_22 ?_
      refine ziload_6_2 dX9_deny_23 ?_
      refine z_icmp_le (tgt := 31) (by first | omega | exact hR.1 _ _ (by decide) | exact zrng_toInt _) (by first | omega | exact hR.1 _ _ (by decide) | exact zrng_toInt _) dX9_deny_24 (by decide) (fun h24 => ?_) (fun h24 => ?_)
      · have hm : b = ((max a' b' : Nat) : Int) := by omega
        refine ziload_6_2 dX9_deny_31 ?_
        refine z_top hm ?_
        refine zistore_6_3 dX9_deny_32 ?_
        refine z_iconst dX9_deny_33 ?_
        refine zistore_6_4 dX9_deny_34 ?_
        have k := lp M19 a' b' (max a' b') ea eb (by omega) (by omega) rfl f12 hab l12 _ 0 M19 none (Nat.zero_add _) zfr.rf (fun _ _ => rfl) (fun j h => absurd h (Nat.not_lt_zero _))
        rw [← ea, ← eb] at k
        exact k
      · have hm : a = ((max a' b' : Nat) : Int) := by omega
        refine ziload_6_1 dX9_deny_27 ?_
        refine z_goto (tgt := 32) dX9_deny_28 (by decide) ?_
        refine z_top hm ?_
        refine zistore_6_3 dX9_deny_32 ?_
        refine z_iconst dX9_deny_33 ?_
        refine zistore_6_4 dX9_deny_34 ?_
        have k := lp M19 a' b' (max a' b') ea eb (by omega) (by omega) rfl f12 hab l12 _ 0 M19 none (Nat.zero_add _) zfr.rf (fun _ _ => rfl) (fun j h => absurd h (Nat.not_lt_zero _))
        rw [← ea, ← eb] at k
        exact k
    · have n16 := or_no q10 h13
      refine z_iconst dX9_deny_16 ?_
      refine z_iret rfl ?_ dX9_deny_17
      first
        | exact bad (fun z => n5 z.1)
        | exact bad (fun z => n16 z.2)
