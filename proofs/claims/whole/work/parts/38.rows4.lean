theorem fb_sm_zero_iff {f : Nat → Nat} : ∀ {n : Nat}, fb_sm f n = 0 ↔ ∀ k, k < n → f k = 0
  | 0 => ⟨fun _ k hk => absurd hk (Nat.not_lt_zero k), fun _ => rfl⟩
  | n + 1 => by
    rw [fb_sm_succ]
    constructor
    · intro h k hk
      rcases Nat.lt_or_ge k n with q | q
      · exact fb_sm_zero_iff.mp (by omega) k q
      · rw [show k = n by omega]; omega
    · intro h
      rw [h n (by omega), fb_sm_zero_iff.mpr (fun k hk => h k (by omega))]
theorem lC_zero {q : Nat → Bool} {F : Nat → Nat → Bool} {m : Nat} : lC q F m = 0 ↔ ∀ w, w < m → ∀ j, j < lQ q w → F w j = false := by
  unfold lC
  rw [fb_sm_zero_iff]
  constructor
  · intro h w hw j hj
    exact fb_ct_zero.mp (h w hw) j hj
  · intro h w hw
    exact fb_ct_zero.mpr (h w hw)
/-- one row lies within another one -/
noncomputable def wiB (q : Nat → Bool) (S : Nat → Nat → Nat → Bool) (a b : Nat) : Bool := lC q (fun w j => S (lE q w) a j && !S (lE q w) b j) (lS q) == 0
theorem wiB_iff {q : Nat → Bool} {S : Nat → Nat → Nat → Bool} {a b : Nat} : wiB q S a b = true ↔ ¬ ∃ w j, w < lS q ∧ j < lQ q w ∧ S (lE q w) a j = true ∧ S (lE q w) b j = false := by
  unfold wiB
  rw [beq_iff_eq, lC_zero]
  constructor
  · rintro h ⟨w, j, h1, h2, h3, h4⟩
    have := h w h1 j h2
    rw [h3, h4] at this
    cases this
  · intro h w hw j hj
    cases h3 : S (lE q w) a j
    · rfl
    · cases h4 : S (lE q w) b j
      · exact absurd ⟨w, j, hw, hj, h3, h4⟩ h
      · rfl
def awM (M : zMem) (N : Nat) (aw : Nat → Bool) : Prop := ∀ i, i < N → M 26 i = if aw i then 1 else 0
noncomputable def svF (q : Nat → Bool) (S : Nat → Nat → Nat → Bool) (aw : Nat → Bool) (i n : Nat) : Bool := !(n == i) && (aw n && (wiB q S n i || wiB q S i n))
theorem sp_Rows_serves (M : zMem) (q : Nat → Bool) (N : Nat) (Ws : Nat → Nat) (S : Nat → Nat → Nat → Bool) (aw : Nat → Bool) (i : Nat) (h : rdy M q N Ws S) (hN : N ≤ 12) (h56 : M 5 6 = N) (haw : awM M N aw) (hi : i < N) : zSp zd_Rows_serves 3 [zr 6, zi i] M (fun r M' => M' = M ∧ r = fb_ct (svF q S aw i) N) := by
  refine zSp_in 2 [some (zr 6), some (zi i), none, none] rfl rfl (by decide +kernel) rfl ?_
  refine z_withR (fun hR => ?_)
  have loop : ∀ (c n : Nat), n + c = N → zV zd_Rows_serves 3 4 [some (zr 6), some (zi i), some (zi (fb_ct (svF q S aw i) n)), some (zi n)] [] M (fun r M' => M' = M ∧ r = fb_ct (svF q S aw i) N) := by
    intro c
    induction c with
    | zero =>
      intro n hn
      refine ziload_4_3 dX5_serves_4 ?_
      refine zaload_4_0 dX5_serves_5 ?_
      refine zg_Rows_55 rfl dX5_serves_6 ?_
      refine zg_Rows_67 rfl dX5_serves_9 ?_
      refine z_top h56 ?_
      refine z_icmp_ge (tgt := 59) (by first | omega | exact hR.1 _ _ (by decide) | exact zrng_toInt _) (by first | omega | exact hR.1 _ _ (by decide) | exact zrng_toInt _) dX5_serves_12 (by decide) (fun h12 => ?_) (fun h12 => ?_)
      · refine ziload_4_2 dX5_serves_59 ?_
        refine z_iret rfl ?_ dX5_serves_60
        exact ⟨rfl, by rw [show n = N by omega]⟩
      · omega
    | succ c ih =>
      intro n hn
      have hc := fb_ct_le (svF q S aw i) n
      have hcs := fb_ct_succ (svF q S aw i) n
      have hsv : svF q S aw i n = (!(n == i) && (aw n && (wiB q S n i || wiB q S i n))) := rfl
      have k53 : svF q S aw i n = false → zV zd_Rows_serves 3 53 [some (zr 6), some (zi i), some (zi (fb_ct (svF q S aw i) n)), some (zi n)] [] M (fun r M' => M' = M ∧ r = fb_ct (svF q S aw i) N) := by
        intro hno
        have e1 : fb_ct (svF q S aw i) (n + 1) = fb_ct (svF q S aw i) n := by rw [hcs, hno]; rfl
        rw [← e1]
        refine ziinc_4_3 dX5_serves_53 ?_
        refine z_goto (tgt := 4) dX5_serves_56 (by decide) ?_
        exact ih (n + 1) (by omega)
      have k50 : svF q S aw i n = true → zV zd_Rows_serves 3 50 [some (zr 6), some (zi i), some (zi (fb_ct (svF q S aw i) n)), some (zi n)] [] M (fun r M' => M' = M ∧ r = fb_ct (svF q S aw i) N) := by
        intro hyes
        have e1 : fb_ct (svF q S aw i) (n + 1) = fb_ct (svF q S aw i) n + 1 := by rw [hcs, hyes]; rfl
        refine ziinc_4_2 dX5_serves_50 ?_
        rw [show ((fb_ct (svF q S aw i) n : Nat) : Int) + 1 = ((fb_ct (svF q S aw i) (n + 1) : Nat) : Int) by rw [e1]; omega]
        refine ziinc_4_3 dX5_serves_53 ?_
        refine z_goto (tgt := 4) dX5_serves_56 (by decide) ?_
        exact ih (n + 1) (by omega)
      refine ziload_4_3 dX5_serves_4 ?_
      refine zaload_4_0 dX5_serves_5 ?_
      refine zg_Rows_55 rfl dX5_serves_6 ?_
      refine zg_Rows_67 rfl dX5_serves_9 ?_
      refine z_top h56 ?_
      refine z_icmp_ge (tgt := 59) (by first | omega | exact hR.1 _ _ (by decide) | exact zrng_toInt _) (by first | omega | exact hR.1 _ _ (by decide) | exact zrng_toInt _) dX5_serves_12 (by decide) (fun h12 => ?_) (fun h12 => ?_)
      · omega
      · refine ziload_4_3 dX5_serves_15 ?_
        refine ziload_4_1 dX5_serves_16 ?_
        refine z_icmp_eq (tgt := 53) (by first | omega | exact hR.1 _ _ (by decide) | exact zrng_toInt _) (by first | omega | exact hR.1 _ _ (by decide) | exact zrng_toInt _) dX5_serves_17 (by decide) (fun h17 => ?_) (fun h17 => ?_)
        · exact k53 (by rw [hsv, show n = i by omega]; simp)
        · refine zaload_4_0 dX5_serves_20 ?_
          refine zg_Rows_55 rfl dX5_serves_21 ?_
          refine zg_Rows_135 rfl dX5_serves_24 ?_
          refine ziload_4_3 dX5_serves_27 ?_
          refine z_zald _ rfl (by decide) (by decide) rfl (by omega) dX5_serves_28 ?_
          refine z_top (haw n (by omega)) ?_
          refine z_if_eq (tgt := 53) (by split <;> omega) dX5_serves_29 (by decide) (fun h29 => ?_) (fun h29 => ?_)
          · exact k53 (by have : aw n = false := by { revert h29; cases aw n <;> simp }; rw [hsv, this]; simp)
          · have hawn : aw n = true := by revert h29; cases aw n <;> simp
            have hne : (n == i) = false := by simp; omega
            refine zaload_4_0 dX5_serves_32 ?_
            refine ziload_4_3 dX5_serves_33 ?_
            refine ziload_4_1 dX5_serves_34 ?_
            refine zc_Rows_139 rfl dX5_serves_35 (by decide) (Nat.le_of_ble_eq_true rfl) (sp_Rows_within M q N Ws S n i h hN (by omega) hi) (fun r35 M35 hq35 => ?_)
            refine z_withR (fun hR => ?_)
            obtain ⟨rfl, hw1⟩ := hq35
            refine z_if_ne (tgt := 50) (by omega) dX5_serves_38 (by decide) (fun h38 => ?_) (fun h38 => ?_)
            · have hw2 : wiB q S n i = true := wiB_iff.mpr (hw1.elim (fun h => absurd h.1 h38) (fun h => h.2))
              first
                | exact k50 (by rw [hsv, hne, hawn, hw4]; simp)
                | exact k50 (by rw [hsv, hne, hawn, hw2]; simp)
            · have hw2 : wiB q S n i = false := by
                rcases hw1 with hw1 | hw1
                · exact Bool.eq_false_iff.mpr (fun h9 => wiB_iff.mp h9 hw1.2)
                · omega
              refine zaload_4_0 dX5_serves_41 ?_
              refine ziload_4_1 dX5_serves_42 ?_
              refine ziload_4_3 dX5_serves_43 ?_
              refine zc_Rows_139 rfl dX5_serves_44 (by decide) (Nat.le_of_ble_eq_true rfl) (sp_Rows_within M35 q N Ws S i n h hN hi (by omega)) (fun r44 M44 hq44 => ?_)
              refine z_withR (fun hR => ?_)
              obtain ⟨rfl, hw3⟩ := hq44
              refine z_if_eq (tgt := 53) (by omega) dX5_serves_47 (by decide) (fun h47 => ?_) (fun h47 => ?_)
              · exact k53 (by
                  have hw4 : wiB q S i n = false := by
                    rcases hw3 with hw3 | hw3
                    · exact Bool.eq_false_iff.mpr (fun h9 => wiB_iff.mp h9 hw3.2)
                    · omega
                  rw [hsv, hw2, hw4]; simp)
              · have hw4 : wiB q S i n = true := wiB_iff.mpr (hw3.elim (fun h => absurd h.1 h47) (fun h => h.2))
                first
                  | exact k50 (by rw [hsv, hne, hawn, hw4]; simp)
                  | exact k50 (by rw [hsv, hne, hawn, hw2]; simp)
  refine z_iconst dX5_serves_0 ?_
  refine zistore_4_2 dX5_serves_1 ?_
  refine z_iconst dX5_serves_2 ?_
  refine zistore_4_3 dX5_serves_3 ?_
  exact loop N 0 (by omega)
theorem rdy.ext {M : zMem} {q : Nat → Bool} {N : Nat} {Ws Ws' : Nat → Nat} {S : Nat → Nat → Nat → Bool} {M' : zMem} {Fr : List Nat} (h : rdy M q N Ws S) (hN : N ≤ 12) (hf : zfr Fr M M') (h6 : 6 ∉ Fr) (h27 : 27 ∉ Fr) (h28 : 28 ∉ Fr) (hM : snM M' Ws') (hW : snW Ws' N S) (hd : ∀ e i, e < 3341 → i < 12 → dn Ws e i = true → dn Ws' e i = true) : rdy M' q N Ws' S :=
  ⟨h.1.fr hf h6 h27 h28, hM, hW, fun w hw i hi => hd _ _ (lE_ok hw).1 (by omega) (h.2.2.2 w hw i hi)⟩
theorem sp_Rows_seeAll (M : zMem) (L R W A Bb Ws : Nat → Nat) (T N wh e : Nat) (hc : catF M) (hT : tmC M L R T) (hnt : ntC M T N W A Bb) (hM : snM M Ws) (hW : snW Ws N (sE L R W A Bb)) (he : e < 3341) (hwh : wh < 4096) (hcl : ∀ u, u < N → wh.testBit u = true → (¬ W u = 0 → wh.testBit (A u) = true) ∧ (W u = 2 → wh.testBit (Bb u) = true)) :
    zSp zd_Rows_seeAll 4 [zr 6, zi wh, zi e] M (fun _ M' => zfr [3, 15, 16, 29] M M' ∧ ∃ Ws' : Nat → Nat, snM M' Ws' ∧ snW Ws' N (sE L R W A Bb) ∧ (∀ e' i', e' < 3341 → i' < 12 → dn Ws e' i' = true → dn Ws' e' i' = true) ∧ ∀ i, i < N → wh.testBit i = true → dn Ws' e i = true) := by
  refine zSp_in 1 [some (zr 6), some (zi wh), some (zi e), none] rfl rfl (by decide +kernel) rfl ?_
  refine z_withR (fun hR => ?_)
  have h56 := hnt.1
  have hN : N ≤ 12 := hnt.2.1
  have hw := hnt.2.2.1
  have loop : ∀ (c n : Nat) (M1 : zMem) (Ws1 : Nat → Nat), n + c = N → zfr [3, 15, 16, 29] M M1 → snM M1 Ws1 → snW Ws1 N (sE L R W A Bb) → (∀ e' i', e' < 3341 → i' < 12 → dn Ws e' i' = true → dn Ws1 e' i' = true) → (∀ i, i < n → wh.testBit i = true → dn Ws1 e i = true) → zV zd_Rows_seeAll 4 2 [some (zr 6), some (zi wh), some (zi e), some (zi n)] [] M1 (fun _ M' => zfr [3, 15, 16, 29] M M' ∧ ∃ Ws' : Nat → Nat, snM M' Ws' ∧ snW Ws' N (sE L R W A Bb) ∧ (∀ e' i', e' < 3341 → i' < 12 → dn Ws e' i' = true → dn Ws' e' i' = true) ∧ ∀ i, i < N → wh.testBit i = true → dn Ws' e i = true) := by
    intro c
    induction c with
    | zero =>
      intro n M1 Ws1 hn hf hM1 hW1 hmono hd
      have e56 : M1 5 6 = N := by rw [hf 5 (by decide)]; exact h56
      refine z_withR (fun hR => ?_)
      refine ziload_4_3 dX5_seeAll_2 ?_
      refine zaload_4_0 dX5_seeAll_3 ?_
      refine zg_Rows_55 rfl dX5_seeAll_4 ?_
      refine zg_Rows_67 rfl dX5_seeAll_7 ?_
      refine z_top e56 ?_
      refine z_icmp_ge (tgt := 33) (by first | omega | exact hR.1 _ _ (by decide) | exact zrng_toInt _) (by first | omega | exact hR.1 _ _ (by decide) | exact zrng_toInt _) dX5_seeAll_10 (by decide) (fun h10 => ?_) (fun h10 => ?_)
      · refine z_vret rfl ?_ dX5_seeAll_33
        exact ⟨hf, Ws1, hM1, hW1, hmono, fun i h1 => hd i (by omega)⟩
      · omega
    | succ c ih =>
      intro n M1 Ws1 hn hf hM1 hW1 hmono hd
      have e56 : M1 5 6 = N := by rw [hf 5 (by decide)]; exact h56
      have hbit := z_bit (a := wh) (l := n) (by omega) (by omega)
      refine z_withR (fun hR => ?_)
      refine ziload_4_3 dX5_seeAll_2 ?_
      refine zaload_4_0 dX5_seeAll_3 ?_
      refine zg_Rows_55 rfl dX5_seeAll_4 ?_
      refine zg_Rows_67 rfl dX5_seeAll_7 ?_
      refine z_top e56 ?_
      refine z_icmp_ge (tgt := 33) (by first | omega | exact hR.1 _ _ (by decide) | exact zrng_toInt _) (by first | omega | exact hR.1 _ _ (by decide) | exact zrng_toInt _) dX5_seeAll_10 (by decide) (fun h10 => ?_) (fun h10 => ?_)
      · omega
      · refine ziload_4_1 dX5_seeAll_13 ?_
        refine ziload_4_3 dX5_seeAll_14 ?_
        refine z_ishr dX5_seeAll_15 ?_
        refine z_iconst dX5_seeAll_16 ?_
        refine z_iand dX5_seeAll_17 ?_
        refine z_top hbit ?_
        refine z_if_eq (tgt := 27) (by split <;> omega) dX5_seeAll_18 (by decide) (fun h18 => ?_) (fun h18 => ?_)
        · have hno : wh.testBit n = false := by revert h18; cases wh.testBit n <;> simp
          refine ziinc_4_3 dX5_seeAll_27 ?_
          refine z_goto (tgt := 2) dX5_seeAll_30 (by decide) ?_
          first
            | exact ih (n + 1) M1 Ws1 (by omega) hf hM1 hW1 hmono (fun i h1 h2 => by
                rcases Nat.lt_or_ge i n with q1 | q1
                · exact hd i q1 h2
                · rw [show i = n by omega, hno] at h2; cases h2)
            | exact ih (n + 1) M24 Ws2 (by omega) (hf.tr hf2 (fun _ h => h) (fun _ h => h)) hM2 hW2 (fun e' i' h1 h2 h3 => by rw [hd2 e' i' h1 h2, hmono e' i' h1 h2 h3]; rfl) (fun i h1 h2 => by
                rw [hd2 e i he (by omega)]
                rcases Nat.lt_or_ge i n with q1 | q1
                · rw [hd i q1 h2]; rfl
                · rw [show i = n by omega]; simp)
        · have hyes : wh.testBit n = true := by revert h18; cases wh.testBit n <;> simp
          refine zaload_4_0 dX5_seeAll_21 ?_
          refine ziload_4_3 dX5_seeAll_22 ?_
          refine ziload_4_2 dX5_seeAll_23 ?_
          refine zc_Rows_70 rfl dX5_seeAll_24 (by decide) (Nat.le_of_ble_eq_true rfl) (sp_Rows_see M1 L R W A Bb Ws1 T N n e (hc.fr hf (by decide) (by decide)) (hT.fr hf (by decide) (by decide) (by decide) (by decide)) (hnt.fr hf (by decide) (by decide) (by decide) (by decide) (by decide) (by decide)) hM1 hW1 he (by omega) (fun h0 => ⟨hd _ ((hw n (by omega)).2.2 h0).1 ((hcl n (by omega) hyes).1 h0), fun h2 => hd _ ((hw n (by omega)).2.2 h0).2 ((hcl n (by omega) hyes).2 h2)⟩)) (fun r24 M24 hq24 => ?_)
          refine z_withR (fun hR => ?_)
          obtain ⟨hf2, Ws2, hM2, hW2, hd2⟩ := hq24
          refine ziinc_4_3 dX5_seeAll_27 ?_
          refine z_goto (tgt := 2) dX5_seeAll_30 (by decide) ?_
          first
            | exact ih (n + 1) M1 Ws1 (by omega) hf hM1 hW1 hmono (fun i h1 h2 => by
                rcases Nat.lt_or_ge i n with q1 | q1
                · exact hd i q1 h2
                · rw [show i = n by omega, hno] at h2; cases h2)
            | exact ih (n + 1) M24 Ws2 (by omega) (hf.tr hf2 (fun _ h => h) (fun _ h => h)) hM2 hW2 (fun e' i' h1 h2 h3 => by rw [hd2 e' i' h1 h2, hmono e' i' h1 h2 h3]; rfl) (fun i h1 h2 => by
                rw [hd2 e i he (by omega)]
                rcases Nat.lt_or_ge i n with q1 | q1
                · rw [hd i q1 h2]; rfl
                · rw [show i = n by omega]; simp)
  refine z_iconst dX5_seeAll_0 ?_
  refine zistore_4_3 dX5_seeAll_1 ?_
  exact loop N 0 M Ws (by omega) zfr.rf hM hW (fun _ _ _ _ h => h) (fun i h1 => absurd h1 (Nat.not_lt_zero _))
theorem sp_Rows_denier (M : zMem) (L R W A Bb Ws Kf : Nat → Nat) (T N a b ls : Nat) (hc : catF M) (hT : tmC M L R T) (hnt : ntC M T N W A Bb) (hK : kepF M Kf) (hl : ls < 256) (hM : snM M Ws) (hW : snW Ws N (sE L R W A Bb)) (ha : a < N) (hb : b < N) :
    zSp zd_Rows_denier 5 [zr 6, zi a, zi b, zi ls] M (fun r M' => (zfr [3, 15, 16, 29] M M' ∧ ∃ Ws' : Nat → Nat, snM M' Ws' ∧ snW Ws' N (sE L R W A Bb) ∧ ∀ e' i', e' < 3341 → i' < 12 → dn Ws e' i' = true → dn Ws' e' i' = true) ∧
      ((∃ e : Nat, e < 3341 ∧ r = e ∧ kq Kf ls e = true ∧ (∃ j, j < eSz e * eSz e ∧ sE L R W A Bb e a j = true ∧ sE L R W A Bb e b j = false) ∧ ∀ e', e' < e → kq Kf ls e' = true → ¬ ∃ j, j < eSz e' * eSz e' ∧ sE L R W A Bb e' a j = true ∧ sE L R W A Bb e' b j = false) ∨
       (r = -9 ∧ ∀ e', e' < 3341 → kq Kf ls e' = true → ¬ ∃ j, j < eSz e' * eSz e' ∧ sE L R W A Bb e' a j = true ∧ sE L R W A Bb e' b j = false))) := by
  refine zSp_in 2 [some (zr 6), some (zi a), some (zi b), some (zi ls), none, none] rfl rfl (by decide +kernel) rfl ?_
  refine z_withR (fun hR => ?_)
  have h56 := hnt.1
  have hN : N ≤ 12 := hnt.2.1
  have hw := hnt.2.2.1
  have na := nn_lt hw a ha
  have nb := nn_lt hw b hb
  have pa : 2 ^ (a + 1) ≤ 2 ^ 12 := Nat.pow_le_pow_right (by decide) (by omega)
  have pb : 2 ^ (b + 1) ≤ 2 ^ 12 := Nat.pow_le_pow_right (by decide) (by omega)
  have hor := zOr_nat (a := nn W A Bb a) (b := nn W A Bb b) (by omega) (by omega)
  have hwl : nn W A Bb a ||| nn W A Bb b < 4096 := Nat.or_lt_two_pow (n := 12) (by omega) (by omega)
  have hta : (nn W A Bb a ||| nn W A Bb b).testBit a = true := by rw [Nat.testBit_or, nn_self hw ha]; rfl
  have htb : (nn W A Bb a ||| nn W A Bb b).testBit b = true := by rw [Nat.testBit_or, nn_self hw hb]; simp
  have hcl : ∀ u, u < N → (nn W A Bb a ||| nn W A Bb b).testBit u = true → (¬ W u = 0 → (nn W A Bb a ||| nn W A Bb b).testBit (A u) = true) ∧ (W u = 2 → (nn W A Bb a ||| nn W A Bb b).testBit (Bb u) = true) := by
    intro u hu h1
    simp only [Nat.testBit_or, Bool.or_eq_true] at h1 ⊢
    rcases h1 with h1 | h1
    · obtain ⟨-, q2, q3⟩ := nn_closed hw a ha u h1
      exact ⟨fun h => Or.inl (q2 h), fun h => Or.inl (q3 h)⟩
    · obtain ⟨-, q2, q3⟩ := nn_closed hw b hb u h1
      exact ⟨fun h => Or.inr (q2 h), fun h => Or.inr (q3 h)⟩
  generalize nn W A Bb a ||| nn W A Bb b = wh at hor hwl hta htb hcl
  obtain ⟨post, hpost⟩ : ∃ post : Int → zMem → Prop, post = (fun (r : Int) M' => (zfr [3, 15, 16, 29] M M' ∧ ∃ Ws' : Nat → Nat, snM M' Ws' ∧ snW Ws' N (sE L R W A Bb) ∧ ∀ e' i', e' < 3341 → i' < 12 → dn Ws e' i' = true → dn Ws' e' i' = true) ∧
      ((∃ e : Nat, e < 3341 ∧ r = e ∧ kq Kf ls e = true ∧ (∃ j, j < eSz e * eSz e ∧ sE L R W A Bb e a j = true ∧ sE L R W A Bb e b j = false) ∧ ∀ e', e' < e → kq Kf ls e' = true → ¬ ∃ j, j < eSz e' * eSz e' ∧ sE L R W A Bb e' a j = true ∧ sE L R W A Bb e' b j = false) ∨
       (r = -9 ∧ ∀ e', e' < 3341 → kq Kf ls e' = true → ¬ ∃ j, j < eSz e' * eSz e' ∧ sE L R W A Bb e' a j = true ∧ sE L R W A Bb e' b j = false))) := ⟨_, rfl⟩
  rw [← hpost]
  have loop : ∀ (c e : Nat) (M1 : zMem) (Ws1 : Nat → Nat), e + c = 3341 → zfr [3, 15, 16, 29] M M1 → snM M1 Ws1 → snW Ws1 N (sE L R W A Bb) → (∀ e' i', e' < 3341 → i' < 12 → dn Ws e' i' = true → dn Ws1 e' i' = true) → (∀ e', e' < e → kq Kf ls e' = true → ¬ ∃ j, j < eSz e' * eSz e' ∧ sE L R W A Bb e' a j = true ∧ sE L R W A Bb e' b j = false) → zV zd_Rows_denier 5 32 [some (zr 6), some (zi a), some (zi b), some (zi ls), some (zi wh), some (zi e)] [] M1 post := by
    intro c
    induction c with
    | zero =>
      intro e M1 Ws1 hc1 hf hM1 hW1 hmono hno
      refine z_withR (fun hR => ?_)
      refine ziload_6_5 dX5_denier_32 ?_
      refine z_sipush dX5_denier_34 (by decide) ?_
      refine z_icmp_ge (tgt := 90) (by first | omega | exact hR.1 _ _ (by decide) | exact zrng_toInt _) (by first | omega | exact hR.1 _ _ (by decide) | exact zrng_toInt _) dX5_denier_37 (by decide) (fun h37 => ?_) (fun h37 => ?_)
      · refine z_bipush dX5_denier_90 (by decide) ?_
        refine z_iret rfl ?_ dX5_denier_92
        rw [hpost]
        exact ⟨⟨hf, Ws1, hM1, hW1, hmono⟩, Or.inr ⟨rfl, fun e' h1 => hno e' (by omega)⟩⟩
      · omega
    | succ c ih =>
      intro e M1 Ws1 hc1 hf hM1 hW1 hmono hno
      have he : e < 3341 := by omega
      have hK1 : kepF M1 Kf := hK.fr hf (by decide)
      have hq9 := sq_le (okn_eSz e)
      have b1 := bm512 (sE L R W A Bb e a) hq9.1
      have b2 := bm512 (fun j => sE L R W A Bb e a j && !sE L R W A Bb e b j) hq9.1
      refine z_withR (fun hR => ?_)
      refine ziload_6_5 dX5_denier_32 ?_
      refine z_sipush dX5_denier_34 (by decide) ?_
      refine z_icmp_ge (tgt := 90) (by first | omega | exact hR.1 _ _ (by decide) | exact zrng_toInt _) (by first | omega | exact hR.1 _ _ (by decide) | exact zrng_toInt _) dX5_denier_37 (by decide) (fun h37 => ?_) (fun h37 => ?_)
      · omega
      · refine zaload_6_0 dX5_denier_40 ?_
        refine zg_Rows_51 rfl dX5_denier_41 ?_
        refine ziload_6_5 dX5_denier_44 ?_
        refine ziload_6_3 dX5_denier_46 ?_
        refine zc_Rows_74 rfl dX5_denier_47 (by decide) (Nat.le_of_ble_eq_true rfl) (sp_Catalog_keepsAll M1 e (Kf e) ls he (hK1 _ he).1 (hK1 _ he).2 hl) (fun r47 M47 hq47 => ?_)
        refine z_withR (fun hR => ?_)
        obtain ⟨rfl, rfl⟩ := hq47
        rw [kq_if]
        refine z_if_eq (tgt := 84) (by split <;> omega) dX5_denier_50 (by decide) (fun h50 => ?_) (fun h50 => ?_)
        · have hk : kq Kf ls e = false := by revert h50; cases kq Kf ls e <;> simp
          refine ziinc_6_5 dX5_denier_84 ?_
          refine z_goto (tgt := 32) dX5_denier_87 (by decide) ?_
          first
            | exact ih (e + 1) _ Ws1 (by omega) hf hM1 hW1 hmono (fun e' h1 h2 => by
                rcases Nat.lt_or_ge e' e with q1 | q1
                · exact hno e' q1 h2
                · rw [show e' = e by omega, hk] at h2; cases h2)
            | exact ih (e + 1) _ Ws2 (by omega) hf3 hM2 hW2 hm3 (fun e' h1 h2 => by
                rcases Nat.lt_or_ge e' e with q1 | q1
                · exact hno e' q1 h2
                · rw [show e' = e by omega]
                  rintro ⟨j, g1, g2, g3⟩
                  exact (bm_eq_zero _ _).mp (show bm (fun j => sE L R W A Bb e a j && !sE L R W A Bb e b j) (eSz e * eSz e) = 0 by omega) ⟨j, g1, by simp [g2, g3]⟩)
        · have hk : kq Kf ls e = true := by revert h50; cases kq Kf ls e <;> simp
          refine zaload_6_0 dX5_denier_53 ?_
          refine ziload_6_4 dX5_denier_54 ?_
          refine ziload_6_5 dX5_denier_56 ?_
          refine zc_Rows_127 rfl dX5_denier_58 (by decide) (Nat.le_of_ble_eq_true rfl) (sp_Rows_seeAll M47 L R W A Bb Ws1 T N wh e (hc.fr hf (by decide) (by decide)) (hT.fr hf (by decide) (by decide) (by decide) (by decide)) (hnt.fr hf (by decide) (by decide) (by decide) (by decide) (by decide) (by decide)) hM1 hW1 he hwl hcl) (fun r58 M58 hq58 => ?_)
          refine z_withR (fun hR => ?_)
          obtain ⟨hf2, Ws2, hM2, hW2, hm2, hd2⟩ := hq58
          have hf3 : zfr [3, 15, 16, 29] M M58 := hf.tr hf2 (fun _ h => h) (fun _ h => h)
          have hm3 : ∀ e' i', e' < 3341 → i' < 12 → dn Ws e' i' = true → dn Ws2 e' i' = true := fun e' i' h1 h2 h3 => hm2 e' i' h1 h2 (hmono e' i' h1 h2 h3)
          refine zaload_6_0 dX5_denier_61 ?_
          refine ziload_6_1 dX5_denier_62 ?_
          refine ziload_6_5 dX5_denier_63 ?_
          refine zc_Rows_82 rfl dX5_denier_65 (by decide) (Nat.le_of_ble_eq_true rfl) (sp_Rows_seenBits M58 Ws2 N (sE L R W A Bb) a e hM2 hW2 he (by omega)) (fun r65 M65 hq65 => ?_)
          refine z_withR (fun hR => ?_)
          obtain ⟨rfl, rfl⟩ := hq65
          rw [hd2 a ha hta]
          refine zaload_6_0 dX5_denier_68 ?_
          refine ziload_6_2 dX5_denier_69 ?_
          refine ziload_6_5 dX5_denier_70 ?_
          refine zc_Rows_82 rfl dX5_denier_72 (by decide) (Nat.le_of_ble_eq_true rfl) (sp_Rows_seenBits M65 Ws2 N (sE L R W A Bb) b e hM2 hW2 he (by omega)) (fun r72 M72 hq72 => ?_)
          refine z_withR (fun hR => ?_)
          obtain ⟨rfl, rfl⟩ := hq72
          rw [hd2 b hb htb]
          simp only [Bool.true_and]
          refine z_iconst dX5_denier_75 ?_
          refine z_ixor dX5_denier_76 ?_
          refine z_iand dX5_denier_77 ?_
          refine z_top (zAndn (Nat.lt_trans b1 (by decide))) ?_
          rw [bm_andn]
          refine z_if_eq (tgt := 84) (by first | omega | exact hR.1 _ _ (by decide) | exact zrng_toInt _) dX5_denier_78 (by decide) (fun h78 => ?_) (fun h78 => ?_)
          · refine ziinc_6_5 dX5_denier_84 ?_
            refine z_goto (tgt := 32) dX5_denier_87 (by decide) ?_
            first
              | exact ih (e + 1) _ Ws1 (by omega) hf hM1 hW1 hmono (fun e' h1 h2 => by
                  rcases Nat.lt_or_ge e' e with q1 | q1
                  · exact hno e' q1 h2
                  · rw [show e' = e by omega, hk] at h2; cases h2)
              | exact ih (e + 1) _ Ws2 (by omega) hf3 hM2 hW2 hm3 (fun e' h1 h2 => by
                  rcases Nat.lt_or_ge e' e with q1 | q1
                  · exact hno e' q1 h2
                  · rw [show e' = e by omega]
                    rintro ⟨j, g1, g2, g3⟩
                    exact (bm_eq_zero _ _).mp (show bm (fun j => sE L R W A Bb e a j && !sE L R W A Bb e b j) (eSz e * eSz e) = 0 by omega) ⟨j, g1, by simp [g2, g3]⟩)
          · refine ziload_6_5 dX5_denier_81 ?_
            refine z_iret rfl ?_ dX5_denier_83
            rw [hpost]
            obtain ⟨j, h1, h2⟩ := bm_ne0 (show ¬ bm (fun j => sE L R W A Bb e a j && !sE L R W A Bb e b j) (eSz e * eSz e) = 0 by omega)
            simp only [Bool.and_eq_true, Bool.not_eq_true'] at h2
            exact ⟨⟨hf3, Ws2, hM2, hW2, hm3⟩, Or.inl ⟨e, he, rfl, hk, ⟨j, h1, h2⟩, hno⟩⟩
  refine ziload_6_1 dX5_denier_0 ?_
  refine ziload_6_2 dX5_denier_1 ?_
  refine z_icmp_ne (tgt := 8) (by first | omega | exact hR.1 _ _ (by decide) | exact zrng_toInt _) (by first | omega | exact hR.1 _ _ (by decide) | exact zrng_toInt _) dX5_denier_2 (by decide) (fun h2 => ?_) (fun h2 => ?_)
  · refine zaload_6_0 dX5_denier_8 ?_
    refine zg_Rows_55 rfl dX5_denier_9 ?_
    refine zg_Rows_124 rfl dX5_denier_12 ?_
    refine ziload_6_1 dX5_denier_15 ?_
    refine z_iald (a) rfl (by decide) (by decide) (by omega) (by omega) dX5_denier_16 ?_
    refine z_top (hnt.2.2.2 a ha).2.1 ?_
    refine zaload_6_0 dX5_denier_17 ?_
    refine zg_Rows_55 rfl dX5_denier_18 ?_
    refine zg_Rows_124 rfl dX5_denier_21 ?_
    refine ziload_6_2 dX5_denier_24 ?_
    refine z_iald (b) rfl (by decide) (by decide) (by omega) (by omega) dX5_denier_25 ?_
    refine z_top (hnt.2.2.2 b hb).2.1 ?_
    refine z_ior dX5_denier_26 ?_
    refine z_top hor ?_
    refine zistore_6_4 dX5_denier_27 ?_
    refine z_iconst dX5_denier_29 ?_
    refine zistore_6_5 dX5_denier_30 ?_
    exact loop 3341 0 M Ws (by omega) zfr.rf hM hW (fun _ _ _ _ h => h) (fun e' h1 => absurd h1 (Nat.not_lt_zero _))
  · refine z_bipush dX5_denier_5 (by decide) ?_
    refine z_iret rfl ?_ dX5_denier_7
    rw [hpost]
    refine ⟨⟨zfr.rf, Ws, hM, hW, fun _ _ _ _ h => h⟩, Or.inr ⟨rfl, fun e' h1 h2 => ?_⟩⟩
    rintro ⟨j, g1, g2, g3⟩
    rw [show a = b by omega, g3] at g2
    cases g2
