/-! THE LIST: the first 40 entries with a property -/
noncomputable def lE (q : Nat → Bool) (j : Nat) : Nat := Classical.epsilon (fun e => e < 3341 ∧ q e = true ∧ fb_ct q e = j)
def lS (q : Nat → Bool) : Nat := min 40 (fb_ct q 3341)
theorem lE_ok {q : Nat → Bool} {j : Nat} (hj : j < lS q) : lE q j < 3341 ∧ q (lE q j) = true ∧ fb_ct q (lE q j) = j := by
  have h : ∃ e, e < 3341 ∧ q e = true ∧ fb_ct q e = j := fb_ct_kth (by unfold lS at hj; omega)
  exact Classical.epsilon_spec h
theorem lE_at {q : Nat → Bool} {e : Nat} (he : e < 3341) (hq : q e = true) : lE q (fb_ct q e) = e := by
  have h : ∃ e', e' < 3341 ∧ q e' = true ∧ fb_ct q e' = fb_ct q e := ⟨e, he, hq, rfl⟩
  obtain ⟨h1, h2, h3⟩ := Classical.epsilon_spec h
  exact fb_ct_kth_one h2 hq h3
noncomputable def lQ (q : Nat → Bool) (j : Nat) : Nat := eSz (lE q j) * eSz (lE q j)
noncomputable def lP (q : Nat → Bool) (j : Nat) : Nat := fb_sm (lQ q) j
theorem lQ_le (q : Nat → Bool) (j : Nat) : lQ q j ≤ 9 ∧ 1 ≤ lQ q j := sq_le (okn_eSz _)
theorem lP_le (q : Nat → Bool) (j : Nat) : lP q j ≤ j * 9 := fb_sm_bound (fun k _ => (lQ_le q k).1)
def lsOK (M : zMem) (q : Nat → Bool) : Prop := M 6 6 = lS q ∧ M 6 7 = lP q (lS q) ∧ ∀ j, j < lS q → M 27 j = lE q j ∧ M 28 j = lP q j
theorem lsOK.fr {S : List Nat} {M M' : zMem} {q : Nat → Bool} (h : lsOK M q) (hf : zfr S M M') (h6 : 6 ∉ S) (h27 : 27 ∉ S) (h28 : 28 ∉ S) : lsOK M' q := by
  unfold lsOK at *
  rw [hf 6 h6, hf 27 h27, hf 28 h28]
  exact h
theorem sp_Rows_fillList (M : zMem) (Kf : Nat → Nat) (ls : Nat) (hK : kepF M Kf) (hl : ls < 256) : zSp zd_Rows_fillList 1 [zr 6, zi ls] M (fun _ M' => zfr [6, 27, 28] M M' ∧ lsOK M' (kq Kf ls) ∧ M' 6 8 = 1 ∧ M' 6 9 = M 6 9) := by
  refine zSp_in 2 [some (zr 6), some (zi ls), none, none] rfl rfl (by decide +kernel) rfl ?_
  refine z_withR (fun hR => ?_)
  obtain ⟨q, hq⟩ : ∃ q, q = kq Kf ls := ⟨_, rfl⟩
  rw [← hq]
  have loop : ∀ (c e : Nat) (M1 : zMem) (g : Option zAV), e + c = 3341 → fb_ct q e ≤ 40 → zfr [6, 27, 28] M M1 → M1 6 9 = M 6 9 → M1 6 6 = fb_ct q e → M1 6 7 = lP q (fb_ct q e) → (∀ j, j < fb_ct q e → M1 27 j = lE q j ∧ M1 28 j = lP q j) → zV zd_Rows_fillList 1 12 [some (zr 6), some (zi ls), some (zi e), g] [] M1 (fun _ M' => zfr [6, 27, 28] M M' ∧ lsOK M' q ∧ M' 6 8 = 1 ∧ M' 6 9 = M 6 9) := by
    intro c
    induction c with
    | zero =>
      intro e M1 g hc h40 hf h9 h6 h7 hj
      have hS : lS q = fb_ct q e := by unfold lS; rw [show 3341 = e by omega]; omega
      refine z_withR (fun hR => ?_)
      refine ziload_4_2 dX5_fillList_12 ?_
      refine z_sipush dX5_fillList_13 (by decide) ?_
      refine z_icmp_ge (tgt := 100) (by first | omega | exact hR.1 _ _ (by decide) | exact zrng_toInt _) (by first | omega | exact hR.1 _ _ (by decide) | exact zrng_toInt _) dX5_fillList_16 (by decide) (fun h16 => ?_) (fun h16 => ?_)
      · refine zaload_4_0 dX5_fillList_100 ?_
        refine z_iconst dX5_fillList_101 ?_
        refine zp_Rows_25 rfl (by first | omega | exact hR.1 _ _ (by decide) | exact zrng_toInt _) dX5_fillList_102 ?_
        refine z_withR (fun hR => ?_)
        refine z_vret rfl ?_ dX5_fillList_105
        exact ⟨hf.mu (by decide), ⟨by rw [hS]; exact h6, by rw [hS]; exact h7, fun j h => hj j (by omega)⟩, zmu_same _ _ _ _, h9⟩
      · omega
    | succ c ih =>
      intro e M1 g hc h40 hf h9 h6 h7 hj
      have he : e < 3341 := by omega
      have hpl := lP_le q (fb_ct q e)
      have hcs := fb_ct_succ q e
      have hK1 : kepF M1 Kf := hK.fr hf (by decide)
      have hmono := fb_ct_mono q (show e ≤ 3341 by omega)
      have hsq := sq_le (okn_eSz e)
      refine z_withR (fun hR => ?_)
      refine ziload_4_2 dX5_fillList_12 ?_
      refine z_sipush dX5_fillList_13 (by decide) ?_
      refine z_icmp_ge (tgt := 100) (by first | omega | exact hR.1 _ _ (by decide) | exact zrng_toInt _) (by first | omega | exact hR.1 _ _ (by decide) | exact zrng_toInt _) dX5_fillList_16 (by decide) (fun h16 => ?_) (fun h16 => ?_)
      · omega
      · refine zaload_4_0 dX5_fillList_19 ?_
        refine zg_Rows_18 rfl dX5_fillList_20 ?_
        refine z_top h6 ?_
        refine z_bipush dX5_fillList_23 (by decide) ?_
        refine z_icmp_ge (tgt := 100) (by first | omega | exact hR.1 _ _ (by decide) | exact zrng_toInt _) (by first | omega | exact hR.1 _ _ (by decide) | exact zrng_toInt _) dX5_fillList_25 (by decide) (fun h25 => ?_) (fun h25 => ?_)
        · have hS : lS q = fb_ct q e := by unfold lS; omega
          refine zaload_4_0 dX5_fillList_100 ?_
          refine z_iconst dX5_fillList_101 ?_
          refine zp_Rows_25 rfl (by first | omega | exact hR.1 _ _ (by decide) | exact zrng_toInt _) dX5_fillList_102 ?_
          refine z_withR (fun hR => ?_)
          refine z_vret rfl ?_ dX5_fillList_105
          exact ⟨hf.mu (by decide), ⟨by rw [hS]; exact h6, by rw [hS]; exact h7, fun j h => hj j (by omega)⟩, zmu_same _ _ _ _, h9⟩
        · refine zaload_4_0 dX5_fillList_28 ?_
          refine zg_Rows_51 rfl dX5_fillList_29 ?_
          refine ziload_4_2 dX5_fillList_32 ?_
          refine ziload_4_1 dX5_fillList_33 ?_
          refine zc_Rows_74 rfl dX5_fillList_34 (by decide) (Nat.le_of_ble_eq_true rfl) (sp_Catalog_keepsAll M1 e (Kf e) ls he (hK1 _ he).1 (hK1 _ he).2 hl) (fun r34 M34 hq34 => ?_)
          refine z_withR (fun hR => ?_)
          obtain ⟨rfl, rfl⟩ := hq34
          rw [kq_if, ← hq]
          refine z_if_eq (tgt := 94) (by split <;> omega) dX5_fillList_37 (by decide) (fun h37 => ?_) (fun h37 => ?_)
          · have hqe : q e = false := by revert h37; cases q e <;> simp
            have e1 : fb_ct q (e + 1) = fb_ct q e := by rw [hcs, hqe]; rfl
            refine ziinc_4_2 dX5_fillList_94 ?_
            refine z_goto (tgt := 12) dX5_fillList_97 (by decide) ?_
            first
              | exact ih (e + 1) _ _ (by omega) (by omega) hf h9 (by rw [e1]; exact h6) (by rw [e1]; exact h7) (by rw [e1]; exact hj)
              | exact ih (e + 1) _ _ (by omega) (by omega) ((((hf.mu (by decide)).mu (by decide)).mu (by decide)).mu (by decide)) h9 (by rw [e1, zmu_same]; omega) (by rw [e1, zmu_ne _ _ _ _ (by decide), zmu_same, hlP]; omega) (fun j h => by
                  by_cases h8 : j = fb_ct q e
                  · subst h8
                    rw [zmu_other _ _ _ _ (by decide), zmu_other _ _ _ _ (by decide), zmu_other _ _ _ _ (by decide), zmu_same, zmu_other _ _ _ _ (by decide), zmu_other _ _ _ _ (by decide), zmu_same, hle]
                    exact ⟨rfl, rfl⟩
                  · rw [zmu_other _ _ _ _ (by decide), zmu_other _ _ _ _ (by decide), zmu_other _ _ _ _ (by decide), zmu_ne _ _ _ _ h8, zmu_other _ _ _ _ (by decide), zmu_other _ _ _ _ (by decide), zmu_ne _ _ _ _ h8]
                    exact hj j (by omega))
          · have hqe : q e = true := by revert h37; cases q e <;> simp
            have e1 : fb_ct q (e + 1) = fb_ct q e + 1 := by rw [hcs, hqe]; rfl
            have hle := lE_at he hqe
            have hlP : lP q (fb_ct q e + 1) = lP q (fb_ct q e) + eSz e * eSz e := by show fb_sm (lQ q) _ + lQ q _ = _; unfold lQ; rw [hle]; rfl
            refine zaload_4_0 dX5_fillList_40 ?_
            refine zg_Rows_51 rfl dX5_fillList_41 ?_
            refine ziload_4_2 dX5_fillList_44 ?_
            refine zc_Rows_78 rfl dX5_fillList_45 (by decide) (Nat.le_of_ble_eq_true rfl) (sp_Catalog_sizeOf M34 e he) (fun r45 M45 hq45 => ?_)
            refine z_withR (fun hR => ?_)
            obtain ⟨rfl, rfl⟩ := hq45
            refine zistore_4_3 dX5_fillList_48 ?_
            refine zaload_4_0 dX5_fillList_49 ?_
            refine zg_Rows_11 rfl dX5_fillList_50 ?_
            refine zaload_4_0 dX5_fillList_53 ?_
            refine zg_Rows_18 rfl dX5_fillList_54 ?_
            refine z_top h6 ?_
            refine ziload_4_2 dX5_fillList_57 ?_
            refine z_iast (fb_ct q e) (by decide) rfl (by decide) (by decide) (by omega) (by omega) (by first | omega | exact hR.1 _ _ (by decide) | exact zrng_toInt _) dX5_fillList_58 ?_
            refine z_withR (fun hR => ?_)
            refine zaload_4_0 dX5_fillList_59 ?_
            refine zg_Rows_15 rfl dX5_fillList_60 ?_
            refine zaload_4_0 dX5_fillList_63 ?_
            refine zg_Rows_18 rfl dX5_fillList_64 ?_
            refine z_top h6 ?_
            refine zaload_4_0 dX5_fillList_67 ?_
            refine zg_Rows_22 rfl dX5_fillList_68 ?_
            refine z_top h7 ?_
            refine z_iast (fb_ct q e) (by decide) rfl (by decide) (by decide) (by omega) (by omega) (by first | omega | exact hR.1 _ _ (by decide) | exact zrng_toInt _) dX5_fillList_71 ?_
            refine z_withR (fun hR => ?_)
            refine zaload_4_0 dX5_fillList_72 ?_
            refine z_dup (fun _ => rfl) dX5_fillList_73 ?_
            refine zg_Rows_22 rfl dX5_fillList_74 ?_
            refine z_top h7 ?_
            refine ziload_4_3 dX5_fillList_77 ?_
            refine ziload_4_3 dX5_fillList_78 ?_
            refine z_imul dX5_fillList_79 ?_
            refine z_iadd dX5_fillList_80 ?_
            refine zp_Rows_22 rfl (by omega) dX5_fillList_81 ?_
            refine z_withR (fun hR => ?_)
            refine zaload_4_0 dX5_fillList_84 ?_
            refine z_dup (fun _ => rfl) dX5_fillList_85 ?_
            refine zg_Rows_18 rfl dX5_fillList_86 ?_
            refine z_top h6 ?_
            refine z_iconst dX5_fillList_89 ?_
            refine z_iadd dX5_fillList_90 ?_
            refine zp_Rows_18 rfl (by omega) dX5_fillList_91 ?_
            refine z_withR (fun hR => ?_)
            refine ziinc_4_2 dX5_fillList_94 ?_
            refine z_goto (tgt := 12) dX5_fillList_97 (by decide) ?_
            first
              | exact ih (e + 1) _ _ (by omega) (by omega) hf h9 (by rw [e1]; exact h6) (by rw [e1]; exact h7) (by rw [e1]; exact hj)
              | exact ih (e + 1) _ _ (by omega) (by omega) ((((hf.mu (by decide)).mu (by decide)).mu (by decide)).mu (by decide)) h9 (by rw [e1, zmu_same]; omega) (by rw [e1, zmu_ne _ _ _ _ (by decide), zmu_same, hlP]; omega) (fun j h => by
                  by_cases h8 : j = fb_ct q e
                  · subst h8
                    rw [zmu_other _ _ _ _ (by decide), zmu_other _ _ _ _ (by decide), zmu_other _ _ _ _ (by decide), zmu_same, zmu_other _ _ _ _ (by decide), zmu_other _ _ _ _ (by decide), zmu_same, hle]
                    exact ⟨rfl, rfl⟩
                  · rw [zmu_other _ _ _ _ (by decide), zmu_other _ _ _ _ (by decide), zmu_other _ _ _ _ (by decide), zmu_ne _ _ _ _ h8, zmu_other _ _ _ _ (by decide), zmu_other _ _ _ _ (by decide), zmu_ne _ _ _ _ h8]
                    exact hj j (by omega))
  refine zaload_4_0 dX5_fillList_0 ?_
  refine z_iconst dX5_fillList_1 ?_
  refine zp_Rows_18 rfl (by first | omega | exact hR.1 _ _ (by decide) | exact zrng_toInt _) dX5_fillList_2 ?_
  refine z_withR (fun hR => ?_)
  refine zaload_4_0 dX5_fillList_5 ?_
  refine z_iconst dX5_fillList_6 ?_
  refine zp_Rows_22 rfl (by first | omega | exact hR.1 _ _ (by decide) | exact zrng_toInt _) dX5_fillList_7 ?_
  refine z_withR (fun hR => ?_)
  refine z_iconst dX5_fillList_10 ?_
  refine zistore_4_2 dX5_fillList_11 ?_
  exact loop 3341 0 _ _ (by omega) (Nat.zero_le _) ((zfr.rf.mu (by decide)).mu (by decide)) rfl rfl rfl (fun j h => absurd h (Nat.not_lt_zero j))
/-- all that the rows' readers need -/
def rdy (M : zMem) (q : Nat → Bool) (N : Nat) (Ws : Nat → Nat) (S : Nat → Nat → Nat → Bool) : Prop := lsOK M q ∧ snM M Ws ∧ snW Ws N S ∧ ∀ w, w < lS q → ∀ i, i < N → dn Ws (lE q w) i = true
theorem snM.fr {S : List Nat} {M M' : zMem} {Ws : Nat → Nat} (h : snM M Ws) (hf : zfr S M M') (h29 : 29 ∉ S) : snM M' Ws := by
  unfold snM at *
  rw [hf 29 h29]
  exact h
theorem lS_le (q : Nat → Bool) : lS q ≤ 40 := Nat.min_le_left _ _
theorem sp_Rows_settle (M : zMem) (L R W A Bb Kf Ws : Nat → Nat) (T N ls K0 : Nat) (hc : catF M) (hT : tmC M L R T) (hnt : ntC M T N W A Bb) (hK : kepF M Kf) (hl : ls < 256) (hM : snM M Ws) (hW : snW Ws N (sE L R W A Bb)) (hK0 : M 6 9 = K0) (hKN : K0 ≤ N)
    (hlk : (M 6 8 = 0 ∧ K0 = 0) ∨ (M 6 8 = 1 ∧ lsOK M (kq Kf ls) ∧ ∀ w, w < lS (kq Kf ls) → ∀ i, i < K0 → dn Ws (lE (kq Kf ls) w) i = true)) :
    zSp zd_Rows_settle 4 [zr 6, zi ls] M (fun _ M' => zfr [3, 6, 15, 16, 27, 28, 29] M M' ∧ M' 6 8 = 1 ∧ M' 6 9 = N ∧ ∃ Ws', rdy M' (kq Kf ls) N Ws' (sE L R W A Bb)) := by
  refine zSp_in 2 [some (zr 6), some (zi ls), none, none] rfl rfl (by decide +kernel) rfl ?_
  refine z_withR (fun hR => ?_)
  obtain ⟨q, hq⟩ : ∃ q, q = kq Kf ls := ⟨_, rfl⟩
  rw [← hq] at hlk ⊢
  have h40 := lS_le q
  have hN12 : N ≤ 12 := hnt.2.1
  have hw := hnt.2.2.1
  obtain ⟨post, hpost⟩ : ∃ post : Int → zMem → Prop, post = (fun (_ : Int) M' => zfr [3, 6, 15, 16, 27, 28, 29] M M' ∧ M' 6 8 = 1 ∧ M' 6 9 = N ∧ ∃ Ws', rdy M' q N Ws' (sE L R W A Bb)) := ⟨_, rfl⟩
  rw [← hpost]
  have inner : ∀ (i : Nat), i < N → (∀ (M2 : zMem) (Ws2 : Nat → Nat) (g : Option zAV), zfr [3, 6, 15, 16, 27, 28, 29] M M2 → M2 6 8 = 1 → lsOK M2 q → snM M2 Ws2 → snW Ws2 N (sE L R W A Bb) → (∀ w, w < lS q → ∀ i', i' < i + 1 → dn Ws2 (lE q w) i' = true) → zV zd_Rows_settle 4 55 [some (zr 6), some (zi ls), some (zi i), g] [] M2 post) →
      ∀ (c w : Nat) (M1 : zMem) (Ws1 : Nat → Nat), w + c = lS q → zfr [3, 6, 15, 16, 27, 28, 29] M M1 → M1 6 8 = 1 → lsOK M1 q → snM M1 Ws1 → snW Ws1 N (sE L R W A Bb) → (∀ w', w' < lS q → ∀ i', i' < i → dn Ws1 (lE q w') i' = true) → (∀ w', w' < w → dn Ws1 (lE q w') i = true) → zV zd_Rows_settle 4 30 [some (zr 6), some (zi ls), some (zi i), some (zi w)] [] M1 post := by
    intro i hi kk c
    induction c with
    | zero =>
      intro w M1 Ws1 hc1 hf h8 hls hM1 hW1 hd hdw
      have e66 := hls.1
      refine z_withR (fun hR => ?_)
      refine ziload_4_3 dX5_settle_30 ?_
      refine zaload_4_0 dX5_settle_31 ?_
      refine zg_Rows_18 rfl dX5_settle_32 ?_
      refine z_top e66 ?_
      refine z_icmp_ge (tgt := 55) (by first | omega | exact hR.1 _ _ (by decide) | exact zrng_toInt _) (by first | omega | exact hR.1 _ _ (by decide) | exact zrng_toInt _) dX5_settle_35 (by decide) (fun h35 => ?_) (fun h35 => ?_)
      · refine kk M1 Ws1 _ hf h8 hls hM1 hW1 (fun w' h1 i' h2 => ?_)
        rcases Nat.lt_or_ge i' i with q1 | q1
        · exact hd w' h1 i' q1
        · rw [show i' = i by omega]; exact hdw w' (by omega)
      · omega
    | succ c ih =>
      intro w M1 Ws1 hc1 hf h8 hls hM1 hW1 hd hdw
      have e66 := hls.1
      obtain ⟨e1, -, -⟩ := lE_ok (show w < lS q by omega)
      have e27 := (hls.2.2 w (by omega)).1
      refine z_withR (fun hR => ?_)
      refine ziload_4_3 dX5_settle_30 ?_
      refine zaload_4_0 dX5_settle_31 ?_
      refine zg_Rows_18 rfl dX5_settle_32 ?_
      refine z_top e66 ?_
      refine z_icmp_ge (tgt := 55) (by first | omega | exact hR.1 _ _ (by decide) | exact zrng_toInt _) (by first | omega | exact hR.1 _ _ (by decide) | exact zrng_toInt _) dX5_settle_35 (by decide) (fun h35 => ?_) (fun h35 => ?_)
      · omega
      · refine zaload_4_0 dX5_settle_38 ?_
        refine ziload_4_2 dX5_settle_39 ?_
        refine zaload_4_0 dX5_settle_40 ?_
        refine zg_Rows_11 rfl dX5_settle_41 ?_
        refine ziload_4_3 dX5_settle_44 ?_
        refine z_iald _ rfl (by decide) (by decide) rfl (by omega) dX5_settle_45 ?_
        refine z_top e27 ?_
        refine zc_Rows_70 rfl dX5_settle_46 (by decide) (Nat.le_of_ble_eq_true rfl) (sp_Rows_see M1 L R W A Bb Ws1 T N i (lE q w) (hc.fr hf (by decide) (by decide)) (hT.fr hf (by decide) (by decide) (by decide) (by decide)) (hnt.fr hf (by decide) (by decide) (by decide) (by decide) (by decide) (by decide)) hM1 hW1 e1 hi (fun h0 => ⟨hd w (by omega) _ ((hw i hi).2.2 h0).1, fun _ => hd w (by omega) _ ((hw i hi).2.2 h0).2⟩)) (fun r46 M46 hq46 => ?_)
        refine z_withR (fun hR => ?_)
        obtain ⟨hf2, Ws2, hM2, hW2, hd2⟩ := hq46
        refine ziinc_4_3 dX5_settle_49 ?_
        refine z_goto (tgt := 30) dX5_settle_52 (by decide) ?_
        refine ih (w + 1) M46 Ws2 (by omega) (hf.tr hf2 (fun _ h => h) (by decide)) (by rw [hf2 6 (by decide)]; exact h8) (hls.fr hf2 (by decide) (by decide) (by decide)) hM2 hW2 (fun w' h1 i' h2 => ?_) (fun w' h1 => ?_)
        · rw [hd2 _ _ (lE_ok h1).1 (by omega), hd w' h1 i' h2]; rfl
        · rw [hd2 _ _ (lE_ok (show w' < lS q by omega)).1 (by omega)]
          rcases Nat.lt_or_ge w' w with q1 | q1
          · rw [hdw w' q1]; rfl
          · rw [show w' = w by omega]; simp
  have outer : ∀ (c i : Nat) (M1 : zMem) (Ws1 : Nat → Nat) (g : Option zAV), i + c = N → zfr [3, 6, 15, 16, 27, 28, 29] M M1 → M1 6 8 = 1 → lsOK M1 q → snM M1 Ws1 → snW Ws1 N (sE L R W A Bb) → (∀ w', w' < lS q → ∀ i', i' < i → dn Ws1 (lE q w') i' = true) → zV zd_Rows_settle 4 17 [some (zr 6), some (zi ls), some (zi i), g] [] M1 post := by
    intro c
    induction c with
    | zero =>
      intro i M1 Ws1 g hc1 hf h8 hls hM1 hW1 hd
      have e56 : M1 5 6 = N := by rw [hf 5 (by decide)]; exact hnt.1
      refine z_withR (fun hR => ?_)
      refine ziload_4_2 dX5_settle_17 ?_
      refine zaload_4_0 dX5_settle_18 ?_
      refine zg_Rows_55 rfl dX5_settle_19 ?_
      refine zg_Rows_67 rfl dX5_settle_22 ?_
      refine z_top e56 ?_
      refine z_icmp_ge (tgt := 61) (by first | omega | exact hR.1 _ _ (by decide) | exact zrng_toInt _) (by first | omega | exact hR.1 _ _ (by decide) | exact zrng_toInt _) dX5_settle_25 (by decide) (fun h25 => ?_) (fun h25 => ?_)
      · refine zaload_4_0 dX5_settle_61 ?_
        refine zaload_4_0 dX5_settle_62 ?_
        refine zg_Rows_55 rfl dX5_settle_63 ?_
        refine zg_Rows_67 rfl dX5_settle_66 ?_
        refine z_top e56 ?_
        refine zp_Rows_29 rfl (by first | omega | exact hR.1 _ _ (by decide) | exact zrng_toInt _) dX5_settle_69 ?_
        refine z_withR (fun hR => ?_)
        refine z_vret rfl ?_ dX5_settle_72
        rw [hpost]
        refine ⟨hf.mu (by decide), h8, zmu_same _ _ _ _, Ws1, ⟨hls.1, hls.2.1, hls.2.2⟩, hM1, hW1, fun w h1 i' h2 => hd w h1 i' (by omega)⟩
      · omega
    | succ c ih =>
      intro i M1 Ws1 g hc1 hf h8 hls hM1 hW1 hd
      have e56 : M1 5 6 = N := by rw [hf 5 (by decide)]; exact hnt.1
      have k55 : ∀ (M2 : zMem) (Ws2 : Nat → Nat) (g : Option zAV), zfr [3, 6, 15, 16, 27, 28, 29] M M2 → M2 6 8 = 1 → lsOK M2 q → snM M2 Ws2 → snW Ws2 N (sE L R W A Bb) → (∀ w, w < lS q → ∀ i', i' < i + 1 → dn Ws2 (lE q w) i' = true) → zV zd_Rows_settle 4 55 [some (zr 6), some (zi ls), some (zi i), g] [] M2 post := by
        intro M2 Ws2 g hf2 h82 hls2 hM2 hW2 hd2
        refine ziinc_4_2 dX5_settle_55 ?_
        refine z_goto (tgt := 17) dX5_settle_58 (by decide) ?_
        exact ih (i + 1) M2 Ws2 _ (by omega) hf2 h82 hls2 hM2 hW2 hd2
      refine z_withR (fun hR => ?_)
      refine ziload_4_2 dX5_settle_17 ?_
      refine zaload_4_0 dX5_settle_18 ?_
      refine zg_Rows_55 rfl dX5_settle_19 ?_
      refine zg_Rows_67 rfl dX5_settle_22 ?_
      refine z_top e56 ?_
      refine z_icmp_ge (tgt := 61) (by first | omega | exact hR.1 _ _ (by decide) | exact zrng_toInt _) (by first | omega | exact hR.1 _ _ (by decide) | exact zrng_toInt _) dX5_settle_25 (by decide) (fun h25 => ?_) (fun h25 => ?_)
      · omega
      · refine z_iconst dX5_settle_28 ?_
        refine zistore_4_3 dX5_settle_29 ?_
        exact inner i (by omega) k55 (lS q) 0 M1 Ws1 (by omega) hf h8 hls hM1 hW1 hd (fun w' h => absurd h (Nat.not_lt_zero _))
  have h8r : zrng (M 6 8) := hR.1 _ _ (by decide)
  refine zaload_4_0 dX5_settle_0 ?_
  refine zg_Rows_25 rfl dX5_settle_1 ?_
  refine z_if_ne (tgt := 12) (by first | omega | exact hR.1 _ _ (by decide) | exact zrng_toInt _) dX5_settle_4 (by decide) (fun h4 => ?_) (fun h4 => ?_)
  · have hk := hlk.resolve_left (fun h => h4 h.1)
    refine zaload_4_0 dX5_settle_12 ?_
    refine zg_Rows_29 rfl dX5_settle_13 ?_
    first
      | refine z_top hK0 ?_
      | refine z_top hK9 ?_
    refine zistore_4_2 dX5_settle_16 ?_
    first
      | exact outer (N - K0) K0 M Ws _ (by omega) zfr.rf hk.1 hk.2.1 hM hW hk.2.2
      | exact outer N 0 M9 Ws _ (by omega) (hf9.up (by decide)) h89 hls9 (hM.fr hf9 (by decide)) hW (fun w' h1 i' h2 => absurd h2 (Nat.not_lt_zero _))
  · have hk := hlk.resolve_right (fun h => by rw [h.1] at h4; cases h4)
    refine zaload_4_0 dX5_settle_7 ?_
    refine ziload_4_1 dX5_settle_8 ?_
    refine zc_Rows_63 rfl dX5_settle_9 (by decide) (Nat.le_of_ble_eq_true rfl) (sp_Rows_fillList M Kf ls hK hl) (fun r9 M9 hq9 => ?_)
    refine z_withR (fun hR => ?_)
    rw [← hq] at hq9
    obtain ⟨hf9, hls9, h89, h99⟩ := hq9
    have hK9 : M9 6 9 = ((0 : Nat) : Int) := by rw [h99, hK0, hk.2]
    refine zaload_4_0 dX5_settle_12 ?_
    refine zg_Rows_29 rfl dX5_settle_13 ?_
    first
      | refine z_top hK0 ?_
      | refine z_top hK9 ?_
    refine zistore_4_2 dX5_settle_16 ?_
    first
      | exact outer (N - K0) K0 M Ws _ (by omega) zfr.rf hk.1 hk.2.1 hM hW hk.2.2
      | exact outer N 0 M9 Ws _ (by omega) (hf9.up (by decide)) h89 hls9 (hM.fr hf9 (by decide)) hW (fun w' h1 i' h2 => absurd h2 (Nat.not_lt_zero _))
