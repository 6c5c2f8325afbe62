/-! what reads the rows -/
theorem flB_but {q : Nat → Bool} {F G : Nat → Nat → Bool} {m : Nat} : fb_ct (fun k => flB q F k && !flB q G k) (lP q m) = lC q (fun w j => F w j && !G w j) m := by
  rw [← flB_ct]
  refine fb_ct_cong (fun k hk => ?_)
  obtain ⟨w, j, h1, h2, rfl⟩ := flat_ex hk
  rw [flB_at h2, flB_at h2, flB_at h2]
theorem flB_both {q : Nat → Bool} {F G : Nat → Nat → Bool} {m : Nat} : fb_ct (fun k => flB q F k && flB q G k) (lP q m) = lC q (fun w j => F w j && G w j) m := by
  rw [← flB_ct]
  refine fb_ct_cong (fun k hk => ?_)
  obtain ⟨w, j, h1, h2, rfl⟩ := flat_ex hk
  rw [flB_at h2, flB_at h2, flB_at h2]
theorem sp_Model_manyOf (M : zMem) (B : Nat → Nat → Nat) (n : Nat) (F : Nat → Bool) (hn : n < 13) (hl : M 9 15 = lT B) (hp : M 47 (lS (wK B)) = lP (wK B) (lS (wK B))) (hF : ∀ k, k < lP (wK B) (lS (wK B)) → M 53 (360 * n + k) = b01 (F k)) : zSp zd_Model_manyOf 1 [zr 9, zi n] M (fun r M' => M' = M ∧ r = (fb_ct F (lP (wK B) (lS (wK B))) : Nat)) := by
  refine zSp_in 2 [some (zr 9), some (zi n), none, none] rfl rfl (by decide +kernel) rfl ?_
  refine z_withR (fun hR => ?_)
  have hl40 := lS_le (wK B)
  have hpa := lP_all (wK B)
  obtain ⟨P, hP⟩ : ∃ P, P = lP (wK B) (lS (wK B)) := ⟨_, rfl⟩
  rw [← hP] at hp hF hpa ⊢
  have loop : ∀ (c k : Nat), k + c = P → zV zd_Model_manyOf 1 4 [some (zr 9), some (zi n), some (zi (fb_ct F k : Nat)), some (zi k)] [] M (fun r M' => M' = M ∧ r = (fb_ct F P : Nat)) := by
    intro c
    induction c with
    | zero =>
      intro k hk
      refine ziload_4_3 dX9_manyOf_4 ?_
      refine zaload_4_0 dX9_manyOf_5 ?_
      refine zg_Model_51 rfl dX9_manyOf_6 ?_
      refine zaload_4_0 dX9_manyOf_9 ?_
      refine zc_Model_181 rfl dX9_manyOf_10 (by decide) (Nat.le_of_ble_eq_true rfl) (sp_Model_onList M B hl) (fun r10 M10 hq10 => ?_)
      refine z_withR (fun hR => ?_)
      have e10 := hq10.1.symm
      subst e10
      have q10 := hq10.2
      subst q10
      refine z_iald _ rfl (by decide) (by decide) rfl (by omega) dX9_manyOf_13 ?_
      refine z_top hp ?_
      refine z_icmp_ge (tgt := 46) (by first | omega | exact hR.1 _ _ (by decide) | exact zrng_toInt _) (by first | omega | exact hR.1 _ _ (by decide) | exact zrng_toInt _) dX9_manyOf_14 (by decide) (fun h14 => ?_) (fun h14 => ?_)
      · refine ziload_4_2 dX9_manyOf_46 ?_
        refine z_iret rfl ?_ dX9_manyOf_47
        exact ⟨rfl, by rw [show k = P by omega]⟩
      · omega
    | succ c ih =>
      intro k hk
      have hle := fb_ct_le F k
      refine ziload_4_3 dX9_manyOf_4 ?_
      refine zaload_4_0 dX9_manyOf_5 ?_
      refine zg_Model_51 rfl dX9_manyOf_6 ?_
      refine zaload_4_0 dX9_manyOf_9 ?_
      refine zc_Model_181 rfl dX9_manyOf_10 (by decide) (Nat.le_of_ble_eq_true rfl) (sp_Model_onList M B hl) (fun r10 M10 hq10 => ?_)
      refine z_withR (fun hR => ?_)
      have e10 := hq10.1.symm
      subst e10
      have q10 := hq10.2
      subst q10
      refine z_iald _ rfl (by decide) (by decide) rfl (by omega) dX9_manyOf_13 ?_
      refine z_top hp ?_
      refine z_icmp_ge (tgt := 46) (by first | omega | exact hR.1 _ _ (by decide) | exact zrng_toInt _) (by first | omega | exact hR.1 _ _ (by decide) | exact zrng_toInt _) dX9_manyOf_14 (by decide) (fun h14 => ?_) (fun h14 => ?_)
      · omega
      · refine ziload_4_2 dX9_manyOf_17 ?_
        refine zaload_4_0 dX9_manyOf_18 ?_
        refine zg_Model_69 rfl dX9_manyOf_19 ?_
        refine z_sipush dX9_manyOf_22 (by decide) ?_
        refine ziload_4_1 dX9_manyOf_25 ?_
        refine z_imul dX9_manyOf_26 ?_
        refine ziload_4_3 dX9_manyOf_27 ?_
        refine z_iadd dX9_manyOf_28 ?_
        refine z_zald (360 * n + k) rfl (by decide) (by decide) (by omega) (by omega) dX9_manyOf_29 ?_
        refine z_top (hF k (by omega)) ?_
        refine z_if_eq (tgt := 37) (b01_r _) dX9_manyOf_30 (by decide) (fun h30 => ?_) (fun h30 => ?_)
        · have e : fb_ct F (k + 1) = fb_ct F k + 0 := by rw [fb_ct_succ, b01_f h30]; rfl
          refine z_iconst dX9_manyOf_37 ?_
          refine z_iadd dX9_manyOf_38 ?_
          refine z_top (y := ((fb_ct F (k + 1) : Nat) : Int)) (by rw [e]; omega) ?_
          refine zistore_4_2 dX9_manyOf_39 ?_
          refine ziinc_4_3 dX9_manyOf_40 ?_
          refine z_goto (tgt := 4) dX9_manyOf_43 (by decide) ?_
          exact ih (k + 1) (by omega)
        · have e : fb_ct F (k + 1) = fb_ct F k + 1 := by rw [fb_ct_succ, b01_t h30]; rfl
          refine z_iconst dX9_manyOf_33 ?_
          refine z_goto (tgt := 38) dX9_manyOf_34 (by decide) ?_
          refine z_iadd dX9_manyOf_38 ?_
          refine z_top (y := ((fb_ct F (k + 1) : Nat) : Int)) (by rw [e]; omega) ?_
          refine zistore_4_2 dX9_manyOf_39 ?_
          refine ziinc_4_3 dX9_manyOf_40 ?_
          refine z_goto (tgt := 4) dX9_manyOf_43 (by decide) ?_
          exact ih (k + 1) (by omega)
  refine z_iconst dX9_manyOf_0 ?_
  refine zistore_4_2 dX9_manyOf_1 ?_
  refine z_iconst dX9_manyOf_2 ?_
  refine zistore_4_3 dX9_manyOf_3 ?_
  exact loop P 0 (by omega)
theorem sp_Model_butForOf (M : zMem) (B : Nat → Nat → Nat) (a b : Nat) (F G : Nat → Bool) (ha : a < 13) (hb : b < 13) (hl : M 9 15 = lT B) (hp : M 47 (lS (wK B)) = lP (wK B) (lS (wK B))) (hF : ∀ k, k < lP (wK B) (lS (wK B)) → M 53 (360 * a + k) = b01 (F k)) (hG : ∀ k, k < lP (wK B) (lS (wK B)) → M 53 (360 * b + k) = b01 (G k)) : zSp zd_Model_butForOf 1 [zr 9, zi a, zi b] M (fun r M' => M' = M ∧ r = (fb_ct (fun k => F k && !G k) (lP (wK B) (lS (wK B))) : Nat)) := by
  refine zSp_in 2 [some (zr 9), some (zi a), some (zi b), none, none] rfl rfl (by decide +kernel) rfl ?_
  refine z_withR (fun hR => ?_)
  have hl40 := lS_le (wK B)
  have hpa := lP_all (wK B)
  obtain ⟨P, hP⟩ : ∃ P, P = lP (wK B) (lS (wK B)) := ⟨_, rfl⟩
  rw [← hP] at hp hF hG hpa ⊢
  obtain ⟨H, hH⟩ : ∃ H : Nat → Bool, H = (fun k => F k && !G k) := ⟨_, rfl⟩
  rw [← hH]
  have loop : ∀ (c k : Nat), k + c = P → zV zd_Model_butForOf 1 5 [some (zr 9), some (zi a), some (zi b), some (zi (fb_ct H k : Nat)), some (zi k)] [] M (fun r M' => M' = M ∧ r = (fb_ct H P : Nat)) := by
    intro c
    induction c with
    | zero =>
      intro k hk
      refine ziload_5_4 dX9_butForOf_5 ?_
      refine zaload_5_0 dX9_butForOf_7 ?_
      refine zg_Model_51 rfl dX9_butForOf_8 ?_
      refine zaload_5_0 dX9_butForOf_11 ?_
      refine zc_Model_181 rfl dX9_butForOf_12 (by decide) (Nat.le_of_ble_eq_true rfl) (sp_Model_onList M B hl) (fun r12 M12 hq12 => ?_)
      refine z_withR (fun hR => ?_)
      have e12 := hq12.1.symm
      subst e12
      have q12 := hq12.2
      subst q12
      refine z_iald _ rfl (by decide) (by decide) rfl (by omega) dX9_butForOf_15 ?_
      refine z_top hp ?_
      refine z_icmp_ge (tgt := 65) (by first | omega | exact hR.1 _ _ (by decide) | exact zrng_toInt _) (by first | omega | exact hR.1 _ _ (by decide) | exact zrng_toInt _) dX9_butForOf_16 (by decide) (fun h16 => ?_) (fun h16 => ?_)
      · refine ziload_5_3 dX9_butForOf_65 ?_
        refine z_iret rfl ?_ dX9_butForOf_66
        exact ⟨rfl, by rw [show k = P by omega]⟩
      · omega
    | succ c ih =>
      intro k hk
      have hle := fb_ct_le H k
      have eH : H k = (F k && !G k) := by rw [hH]
      refine ziload_5_4 dX9_butForOf_5 ?_
      refine zaload_5_0 dX9_butForOf_7 ?_
      refine zg_Model_51 rfl dX9_butForOf_8 ?_
      refine zaload_5_0 dX9_butForOf_11 ?_
      refine zc_Model_181 rfl dX9_butForOf_12 (by decide) (Nat.le_of_ble_eq_true rfl) (sp_Model_onList M B hl) (fun r12 M12 hq12 => ?_)
      refine z_withR (fun hR => ?_)
      have e12 := hq12.1.symm
      subst e12
      have q12 := hq12.2
      subst q12
      refine z_iald _ rfl (by decide) (by decide) rfl (by omega) dX9_butForOf_15 ?_
      refine z_top hp ?_
      refine z_icmp_ge (tgt := 65) (by first | omega | exact hR.1 _ _ (by decide) | exact zrng_toInt _) (by first | omega | exact hR.1 _ _ (by decide) | exact zrng_toInt _) dX9_butForOf_16 (by decide) (fun h16 => ?_) (fun h16 => ?_)
      · omega
      · refine ziload_5_3 dX9_butForOf_19 ?_
        refine zaload_5_0 dX9_butForOf_20 ?_
        refine zg_Model_69 rfl dX9_butForOf_21 ?_
        refine z_sipush dX9_butForOf_24 (by decide) ?_
        refine ziload_5_1 dX9_butForOf_27 ?_
        refine z_imul dX9_butForOf_28 ?_
        refine ziload_5_4 dX9_butForOf_29 ?_
        refine z_iadd dX9_butForOf_31 ?_
        refine z_zald (360 * a + k) rfl (by decide) (by decide) (by omega) (by omega) dX9_butForOf_32 ?_
        refine z_top (hF k (by omega)) ?_
        refine z_if_eq (tgt := 56) (b01_r _) dX9_butForOf_33 (by decide) (fun h33 => ?_) (fun h33 => ?_)
        · have e : fb_ct H (k + 1) = fb_ct H k + 0 := by rw [fb_ct_succ, eH, b01_f h33]; rfl
          refine z_iconst dX9_butForOf_56 ?_
          refine z_iadd dX9_butForOf_57 ?_
          refine z_top (y := ((fb_ct H (k + 1) : Nat) : Int)) (by rw [e]; omega) ?_
          refine zistore_5_3 dX9_butForOf_58 ?_
          refine ziinc_5_4 dX9_butForOf_59 ?_
          refine z_goto (tgt := 5) dX9_butForOf_62 (by decide) ?_
          exact ih (k + 1) (by omega)
        · refine zaload_5_0 dX9_butForOf_36 ?_
          refine zg_Model_69 rfl dX9_butForOf_37 ?_
          refine z_sipush dX9_butForOf_40 (by decide) ?_
          refine ziload_5_2 dX9_butForOf_43 ?_
          refine z_imul dX9_butForOf_44 ?_
          refine ziload_5_4 dX9_butForOf_45 ?_
          refine z_iadd dX9_butForOf_47 ?_
          refine z_zald (360 * b + k) rfl (by decide) (by decide) (by omega) (by omega) dX9_butForOf_48 ?_
          refine z_top (hG k (by omega)) ?_
          refine z_if_ne (tgt := 56) (b01_r _) dX9_butForOf_49 (by decide) (fun h49 => ?_) (fun h49 => ?_)
          · have e : fb_ct H (k + 1) = fb_ct H k + 0 := by rw [fb_ct_succ, eH, b01_t h33, b01_t h49]; rfl
            refine z_iconst dX9_butForOf_56 ?_
            refine z_iadd dX9_butForOf_57 ?_
            refine z_top (y := ((fb_ct H (k + 1) : Nat) : Int)) (by rw [e]; omega) ?_
            refine zistore_5_3 dX9_butForOf_58 ?_
            refine ziinc_5_4 dX9_butForOf_59 ?_
            refine z_goto (tgt := 5) dX9_butForOf_62 (by decide) ?_
            exact ih (k + 1) (by omega)
          · have e : fb_ct H (k + 1) = fb_ct H k + 1 := by rw [fb_ct_succ, eH, b01_t h33, b01_f h49]; rfl
            refine z_iconst dX9_butForOf_52 ?_
            refine z_goto (tgt := 57) dX9_butForOf_53 (by decide) ?_
            refine z_iadd dX9_butForOf_57 ?_
            refine z_top (y := ((fb_ct H (k + 1) : Nat) : Int)) (by rw [e]; omega) ?_
            refine zistore_5_3 dX9_butForOf_58 ?_
            refine ziinc_5_4 dX9_butForOf_59 ?_
            refine z_goto (tgt := 5) dX9_butForOf_62 (by decide) ?_
            exact ih (k + 1) (by omega)
  refine z_iconst dX9_butForOf_0 ?_
  refine zistore_5_3 dX9_butForOf_1 ?_
  refine z_iconst dX9_butForOf_2 ?_
  refine zistore_5_4 dX9_butForOf_3 ?_
  exact loop P 0 (by omega)
def agK (F G : Nat → Bool) (P : Nat) : Bool := decide (fb_ct (fun k => F k && !G k) P = 0) && decide (fb_ct (fun k => G k && !F k) P = 0)
theorem sp_Model_agrees (M : zMem) (B : Nat → Nat → Nat) (a b : Nat) (F G : Nat → Bool) (ha : a < 13) (hb : b < 13) (hl : M 9 15 = lT B) (hp : M 47 (lS (wK B)) = lP (wK B) (lS (wK B))) (hF : ∀ k, k < lP (wK B) (lS (wK B)) → M 53 (360 * a + k) = b01 (F k)) (hG : ∀ k, k < lP (wK B) (lS (wK B)) → M 53 (360 * b + k) = b01 (G k)) : zSp zd_Model_agrees 2 [zr 9, zi a, zi b] M (fun r M' => M' = M ∧ r = b01 (agK F G (lP (wK B) (lS (wK B))))) := by
  refine zSp_in 0 [some (zr 9), some (zi a), some (zi b)] rfl rfl (by decide +kernel) rfl ?_
  refine z_withR (fun hR => ?_)
  have hpa := lP_all (wK B)
  have h1 := fb_ct_le (fun k => F k && !G k) (lP (wK B) (lS (wK B)))
  have h2 := fb_ct_le (fun k => G k && !F k) (lP (wK B) (lS (wK B)))
  refine zaload_3_0 dX9_agrees_0 ?_
  refine ziload_3_1 dX9_agrees_1 ?_
  refine ziload_3_2 dX9_agrees_2 ?_
  refine zc_Model_209 rfl dX9_agrees_3 (by decide) (Nat.le_of_ble_eq_true rfl) (sp_Model_butForOf M B a b F G ha hb hl hp hF hG) (fun r3 M3 hq3 => ?_)
  refine z_withR (fun hR => ?_)
  have e3 := hq3.1.symm
  subst e3
  have q3 := hq3.2
  subst q3
  refine z_if_ne (tgt := 22) (by first | omega | exact hR.1 _ _ (by decide) | exact zrng_toInt _) dX9_agrees_6 (by decide) (fun h6 => ?_) (fun h6 => ?_)
  · have e : b01 (agK F G (lP (wK B) (lS (wK B)))) = 0 := by
      unfold agK
      rw [decide_eq_false (by omega)]
      rfl
    refine z_iconst dX9_agrees_22 ?_
    refine z_zret rfl (by omega) ?_ dX9_agrees_23
    exact ⟨rfl, e.symm⟩
  · refine zaload_3_0 dX9_agrees_9 ?_
    refine ziload_3_2 dX9_agrees_10 ?_
    refine ziload_3_1 dX9_agrees_11 ?_
    refine zc_Model_209 rfl dX9_agrees_12 (by decide) (Nat.le_of_ble_eq_true rfl) (sp_Model_butForOf M B b a G F hb ha hl hp hG hF) (fun r12 M12 hq12 => ?_)
    refine z_withR (fun hR => ?_)
    have e12 := hq12.1.symm
    subst e12
    have q12 := hq12.2
    subst q12
    refine z_if_ne (tgt := 22) (by first | omega | exact hR.1 _ _ (by decide) | exact zrng_toInt _) dX9_agrees_15 (by decide) (fun h15 => ?_) (fun h15 => ?_)
    · have e : b01 (agK F G (lP (wK B) (lS (wK B)))) = 0 := by
        unfold agK
        rw [decide_eq_false (p := fb_ct (fun k => G k && !F k) (lP (wK B) (lS (wK B))) = 0) (by omega), Bool.and_false]
        rfl
      refine z_iconst dX9_agrees_22 ?_
      refine z_zret rfl (by omega) ?_ dX9_agrees_23
      exact ⟨rfl, e.symm⟩
    · have e : b01 (agK F G (lP (wK B) (lS (wK B)))) = 1 := by
        unfold agK
        rw [decide_eq_true (p := fb_ct (fun k => F k && !G k) (lP (wK B) (lS (wK B))) = 0) (by omega), decide_eq_true (p := fb_ct (fun k => G k && !F k) (lP (wK B) (lS (wK B))) = 0) (by omega)]
        rfl
      refine z_iconst dX9_agrees_18 ?_
      refine z_goto (tgt := 23) dX9_agrees_19 (by decide) ?_
      refine z_zret rfl (by omega) ?_ dX9_agrees_23
      exact ⟨rfl, e.symm⟩
theorem rowsR.at {M : zMem} {B : Nat → Nat → Nat} (h : rowsR M B) : M 47 (lS (wK B)) = lP (wK B) (lS (wK B)) := h.2.2.1 _ (Nat.le_refl _)
theorem rowsR.n12 {M : zMem} {B : Nat → Nat → Nat} (h : rowsR M B) : B 6 0 ≤ 12 := h.1.1.2.2.2.2.1.2.1
theorem rowsR.fl {M : zMem} {B : Nat → Nat → Nat} (h : rowsR M B) {n : Nat} (hn : n < B 6 0) : ∀ k, k < lP (wK B) (lS (wK B)) → M 53 (360 * n + k) = b01 (rwF B n k) := fun _ hk => h.2.2.2.flat hn hk
theorem rowsR.many {M : zMem} {B : Nat → Nat → Nat} (h : rowsR M B) {n : Nat} (hn : n < B 6 0) : zSp zd_Model_manyOf 1 [zr 9, zi n] M (fun r M' => M' = M ∧ r = (cMany B n : Nat)) := by
  have k := sp_Model_manyOf M B n (rwF B n) (by have := h.n12; omega) h.2.1.2.1 h.at (h.fl hn)
  rw [show fb_ct (rwF B n) (lP (wK B) (lS (wK B))) = cMany B n from flB_ct _] at k
  exact k
theorem cBut_flat {B : Nat → Nat → Nat} {a b : Nat} : fb_ct (fun k => rwF B a k && !rwF B b k) (lP (wK B) (lS (wK B))) = cBut B a b := flB_but
theorem rowsR.but {M : zMem} {B : Nat → Nat → Nat} (h : rowsR M B) {a b : Nat} (ha : a < B 6 0) (hb : b < B 6 0) : zSp zd_Model_butForOf 1 [zr 9, zi a, zi b] M (fun r M' => M' = M ∧ r = (cBut B a b : Nat)) := by
  have k := sp_Model_butForOf M B a b (rwF B a) (rwF B b) (by have := h.n12; omega) (by have := h.n12; omega) h.2.1.2.1 h.at (h.fl ha) (h.fl hb)
  rw [cBut_flat] at k
  exact k
theorem rowsR.ag {M : zMem} {B : Nat → Nat → Nat} (h : rowsR M B) {a b : Nat} (ha : a < B 6 0) (hb : b < B 6 0) : zSp zd_Model_agrees 2 [zr 9, zi a, zi b] M (fun r M' => M' = M ∧ r = b01 (agB B a b)) := by
  have k := sp_Model_agrees M B a b (rwF B a) (rwF B b) (by have := h.n12; omega) (by have := h.n12; omega) h.2.1.2.1 h.at (h.fl ha) (h.fl hb)
  unfold agK at k
  rw [cBut_flat, cBut_flat] at k
  exact k
theorem cBut_le {B : Nat → Nat → Nat} {a b : Nat} : cBut B a b ≤ 360 := by
  rw [← cBut_flat]
  exact Nat.le_trans (fb_ct_le _ _) (lP_all _)
theorem sp_Model_many (M : zMem) (B : Nat → Nat → Nat) (n : Int) (hn : zrng n) (h : abR M B) : zSp zd_Model_many 5 [zr 9, zi n] M (fun r M' => rOK M M' B r (fMany B n)) := by
  refine zSp_in 0 [some (zr 9), some (zi n)] rfl rfl (by decide +kernel) rfl ?_
  refine z_withR (fun hR => ?_)
  obtain ⟨n1, n12, nw, n4⟩ := id h.1.2.2.2.2.1
  refine zaload_2_0 dX9_many_0 ?_
  refine ziload_2_1 dX9_many_1 ?_
  refine zc_Model_192 rfl dX9_many_2 (by decide) (Nat.le_of_ble_eq_true rfl) (sp_Model_isNotion M n (B 6 0) hn n1 (by omega)) (fun r2 M2 hq2 => ?_)
  refine z_withR (fun hR => ?_)
  have e2 := hq2.1.symm
  subst e2
  have q2 := hq2.2
  have q2 := or_if q2
  refine z_if_ne (tgt := 10) (or_rng q2) dX9_many_5 (by decide) (fun h5 => ?_) (fun h5 => ?_)
  · have y := or_yes q2 h5
    obtain ⟨n', rfl⟩ : ∃ n' : Nat, n = n' := ⟨n.toNat, by omega⟩
    refine zaload_2_0 dX9_many_10 ?_
    refine zc_Model_206 rfl dX9_many_11 (by decide) (Nat.le_of_ble_eq_true rfl) (sp_Model_layRows M B h) (fun r11 M11 hq11 => ?_)
    refine z_withR (fun hR => ?_)
    obtain ⟨f11, r11'⟩ := hq11
    refine zaload_2_0 dX9_many_14 ?_
    refine ziload_2_1 dX9_many_15 ?_
    refine zc_Model_213 rfl dX9_many_16 (by decide) (Nat.le_of_ble_eq_true rfl) (r11'.many (n := n') (by omega)) (fun r16 M16 hq16 => ?_)
    refine z_withR (fun hR => ?_)
    have e16 := hq16.1.symm
    subst e16
    have q16 := hq16.2
    refine z_iret rfl ?_ dX9_many_19
    unfold fMany
    rw [if_pos y, Int.toNat_natCast]
    exact ⟨q16, f11.up (by decide), r11'.1⟩
  · have y := or_no q2 h5
    refine z_iconst dX9_many_8 ?_
    refine z_iret rfl ?_ dX9_many_9
    unfold fMany
    rw [if_neg y]
    exact ⟨rfl, zfr.rf, h⟩
theorem sp_Model_twin (M : zMem) (B : Nat → Nat → Nat) (n : Int) (hn : zrng n) (h : abR M B) : zSp zd_Model_twin 5 [zr 9, zi n] M (fun r M' => rOK M M' B r (fTwin B n)) := by
  refine zSp_in 1 [some (zr 9), some (zi n), none] rfl rfl (by decide +kernel) rfl ?_
  refine z_withR (fun hR => ?_)
  obtain ⟨n1, n12, nw, n4⟩ := id h.1.2.2.2.2.1
  obtain ⟨post, hpost⟩ : ∃ post : Int → zMem → Prop, post = (fun (r : Int) M' => rOK M M' B r (fTwin B n)) := ⟨_, rfl⟩
  rw [← hpost]
  have lp : ∀ (M1 : zMem) (n' : Nat), n = n' → inR n (B 6 0) → zfr [9, 40, 41, 42, 43, 45, 46, 47, 52, 53] M M1 → rowsR M1 B → ∀ (c k : Nat), k + c = n' → (∀ j, j < k → agB B j n' = false) → zV zd_Model_twin 5 16 [some (zr 9), some (zi n'), some (zi k)] [] M1 post := by
    intro M1 n' en y f1 r1 c
    subst en
    have done : ∀ r : Int, r = fnd (fun m => agB B m n') n' → post r M1 := by
      intro r hr
      rw [hpost]
      unfold fTwin
      rw [if_pos y, Int.toNat_natCast]
      exact ⟨hr, f1.up (by decide), r1.1⟩
    induction c with
    | zero =>
      intro k hk hj
      refine z_withR (fun hR => ?_)
      refine ziload_3_2 dX9_twin_16 ?_
      refine ziload_3_1 dX9_twin_17 ?_
      refine z_icmp_ge (tgt := 38) (by first | omega | exact hR.1 _ _ (by decide) | exact zrng_toInt _) (by first | omega | exact hR.1 _ _ (by decide) | exact zrng_toInt _) dX9_twin_18 (by decide) (fun h18 => ?_) (fun h18 => ?_)
      · refine z_bipush dX9_twin_38 (by decide) ?_
        refine z_iret rfl ?_ dX9_twin_40
        exact done _ (by rw [fnd_none (fun j hj2 => hj j (by omega))])
      · omega
    | succ c ih =>
      intro k hk hj
      refine z_withR (fun hR => ?_)
      refine ziload_3_2 dX9_twin_16 ?_
      refine ziload_3_1 dX9_twin_17 ?_
      refine z_icmp_ge (tgt := 38) (by first | omega | exact hR.1 _ _ (by decide) | exact zrng_toInt _) (by first | omega | exact hR.1 _ _ (by decide) | exact zrng_toInt _) dX9_twin_18 (by decide) (fun h18 => ?_) (fun h18 => ?_)
      · omega
      · refine zaload_3_0 dX9_twin_21 ?_
        refine ziload_3_2 dX9_twin_22 ?_
        refine ziload_3_1 dX9_twin_23 ?_
        refine zc_Model_216 rfl dX9_twin_24 (by decide) (Nat.le_of_ble_eq_true rfl) (r1.ag (a := k) (b := n') (by omega) (by omega)) (fun r24 M24 hq24 => ?_)
        refine z_withR (fun hR => ?_)
        have e24 := hq24.1.symm
        subst e24
        have q24 := hq24.2
        subst q24
        refine z_if_eq (tgt := 32) (b01_r _) dX9_twin_27 (by decide) (fun h27 => ?_) (fun h27 => ?_)
        · have hb := b01_f h27
          refine ziinc_3_2 dX9_twin_32 ?_
          refine z_goto (tgt := 16) dX9_twin_35 (by decide) ?_
          exact ih (k + 1) (by omega) (fun j hj2 => by
            by_cases e : j = k
            · rw [e]; exact hb
            · exact hj j (by omega))
        · have hb := b01_t h27
          refine ziload_3_2 dX9_twin_30 ?_
          refine z_iret rfl ?_ dX9_twin_31
          exact done _ (by rw [fnd_at (fun j hj2 => hj j hj2) hb (by omega)])
  refine zaload_3_0 dX9_twin_0 ?_
  refine ziload_3_1 dX9_twin_1 ?_
  refine zc_Model_192 rfl dX9_twin_2 (by decide) (Nat.le_of_ble_eq_true rfl) (sp_Model_isNotion M n (B 6 0) hn n1 (by omega)) (fun r2 M2 hq2 => ?_)
  refine z_withR (fun hR => ?_)
  have e2 := hq2.1.symm
  subst e2
  have q2 := hq2.2
  have q2 := or_if q2
  refine z_if_ne (tgt := 10) (or_rng q2) dX9_twin_5 (by decide) (fun h5 => ?_) (fun h5 => ?_)
  · have y := or_yes q2 h5
    obtain ⟨n', hn'⟩ : ∃ n' : Nat, n = n' := ⟨n.toNat, by omega⟩
    refine zaload_3_0 dX9_twin_10 ?_
    refine zc_Model_206 rfl dX9_twin_11 (by decide) (Nat.le_of_ble_eq_true rfl) (sp_Model_layRows M B h) (fun r11 M11 hq11 => ?_)
    refine z_withR (fun hR => ?_)
    obtain ⟨f11, r11'⟩ := hq11
    refine z_iconst dX9_twin_14 ?_
    refine zistore_3_2 dX9_twin_15 ?_
    have k := lp M11 n' hn' y f11 r11' n' 0 (by omega) (fun j h => absurd h (Nat.not_lt_zero _))
    rw [← hn'] at k
    exact k
  · have y := or_no q2 h5
    refine z_iconst dX9_twin_8 ?_
    refine z_iret rfl ?_ dX9_twin_9
    rw [hpost]
    unfold fTwin
    rw [if_neg y]
    exact ⟨rfl, zfr.rf, h⟩
theorem sp_Model_butFor (M : zMem) (B : Nat → Nat → Nat) (a b : Int) (ha : zrng a) (hb : zrng b) (h : abR M B) : zSp zd_Model_butFor 5 [zr 9, zi a, zi b] M (fun r M' => rOK M M' B r (fBut B a b)) := by
  refine zSp_in 0 [some (zr 9), some (zi a), some (zi b)] rfl rfl (by decide +kernel) rfl ?_
  refine z_withR (fun hR => ?_)
  obtain ⟨n1, n12, nw, n4⟩ := id h.1.2.2.2.2.1
  have bad : ¬ (inR a (B 6 0) ∧ inR b (B 6 0)) → rOK M M B (-1) (fBut B a b) := by
    intro hn
    unfold fBut
    rw [if_neg hn]
    exact ⟨rfl, zfr.rf, h⟩
  refine zaload_3_0 dX9_butFor_0 ?_
  refine ziload_3_1 dX9_butFor_1 ?_
  refine zc_Model_192 rfl dX9_butFor_2 (by decide) (Nat.le_of_ble_eq_true rfl) (sp_Model_isNotion M a (B 6 0) ha n1 (by omega)) (fun r2 M2 hq2 => ?_)
  refine z_withR (fun hR => ?_)
  have e2 := hq2.1.symm
  subst e2
  have q2 := hq2.2
  have q2 := or_if q2
  refine z_if_eq (tgt := 16) (or_rng q2) dX9_butFor_5 (by decide) (fun h5 => ?_) (fun h5 => ?_)
  · have n5 := or_no q2 h5
    refine z_iconst dX9_butFor_16 ?_
    refine z_iret rfl ?_ dX9_butFor_17
    first
      | exact bad (fun z => n5 z.1)
      | exact bad (fun z => n16 z.2)
  · have n5 := or_yes q2 h5
    refine zaload_3_0 dX9_butFor_8 ?_
    refine ziload_3_2 dX9_butFor_9 ?_
    refine zc_Model_192 rfl dX9_butFor_10 (by decide) (Nat.le_of_ble_eq_true rfl) (sp_Model_isNotion M b (B 6 0) hb n1 (by omega)) (fun r10 M10 hq10 => ?_)
    refine z_withR (fun hR => ?_)
    have e10 := hq10.1.symm
    subst e10
    have q10 := hq10.2
    have q10 := or_if q10
    refine z_if_ne (tgt := 18) (or_rng q10) dX9_butFor_13 (by decide) (fun h13 => ?_) (fun h13 => ?_)
    · have n16 := or_yes q10 h13
      obtain ⟨a', rfl⟩ : ∃ a' : Nat, a = a' := ⟨a.toNat, by omega⟩
      obtain ⟨b', rfl⟩ : ∃ b' : Nat, b = b' := ⟨b.toNat, by omega⟩
      refine zaload_3_0 dX9_butFor_18 ?_
      refine zc_Model_206 rfl dX9_butFor_19 (by decide) (Nat.le_of_ble_eq_true rfl) (sp_Model_layRows M B h) (fun r19 M19 hq19 => ?_)
      refine z_withR (fun hR => ?_)
      obtain ⟨f11, r11'⟩ := hq19
      refine zaload_3_0 dX9_butFor_22 ?_
      refine ziload_3_1 dX9_butFor_23 ?_
      refine ziload_3_2 dX9_butFor_24 ?_
      refine zc_Model_209 rfl dX9_butFor_25 (by decide) (Nat.le_of_ble_eq_true rfl) (r11'.but (a := a') (b := b') (by omega) (by omega)) (fun r25 M25 hq25 => ?_)
      refine z_withR (fun hR => ?_)
      have e25 := hq25.1.symm
      subst e25
      have q25 := hq25.2
      refine z_iret rfl ?_ dX9_butFor_28
      unfold fBut
      rw [if_pos ⟨n5, n16⟩, Int.toNat_natCast, Int.toNat_natCast]
      exact ⟨q25, f11.up (by decide), r11'.1⟩
    · have n16 := or_no q10 h13
      refine z_iconst dX9_butFor_16 ?_
      refine z_iret rfl ?_ dX9_butFor_17
      first
        | exact bad (fun z => n5 z.1)
        | exact bad (fun z => n16 z.2)
theorem cSplit {B : Nat → Nat → Nat} {a b : Nat} : cMany B a = cBut B a b + cBoth B a b := by
  have h1 : fb_ct (rwF B a) (lP (wK B) (lS (wK B))) = cMany B a := flB_ct _
  have h2 := cBut_flat (B := B) (a := a) (b := b)
  have h3 : fb_ct (fun k => rwF B a k && rwF B b k) (lP (wK B) (lS (wK B))) = cBoth B a b := flB_both
  rw [← h1, ← h2, ← h3, ← fb_ct_or]
  · refine fb_ct_cong (fun k _ => ?_)
    cases rwF B a k <;> cases rwF B b k <;> rfl
  · intro k _ ⟨x, y⟩
    cases hz : rwF B b k
    · simp [hz] at y
    · simp [hz] at x
theorem sp_Model_never (M : zMem) (B : Nat → Nat → Nat) (a b : Int) (ha : zrng a) (hb : zrng b) (h : abR M B) : zSp zd_Model_never 5 [zr 9, zi a, zi b] M (fun r M' => rOK M M' B r (fNever B a b)) := by
  refine zSp_in 0 [some (zr 9), some (zi a), some (zi b)] rfl rfl (by decide +kernel) rfl ?_
  refine z_withR (fun hR => ?_)
  obtain ⟨n1, n12, nw, n4⟩ := id h.1.2.2.2.2.1
  have bad : ¬ (inR a (B 6 0) ∧ inR b (B 6 0)) → rOK M M B (-1) (fNever B a b) := by
    intro hn
    unfold fNever
    rw [if_neg hn]
    exact ⟨rfl, zfr.rf, h⟩
  refine zaload_3_0 dX9_never_0 ?_
  refine ziload_3_1 dX9_never_1 ?_
  refine zc_Model_192 rfl dX9_never_2 (by decide) (Nat.le_of_ble_eq_true rfl) (sp_Model_isNotion M a (B 6 0) ha n1 (by omega)) (fun r2 M2 hq2 => ?_)
  refine z_withR (fun hR => ?_)
  have e2 := hq2.1.symm
  subst e2
  have q2 := hq2.2
  have q2 := or_if q2
  refine z_if_eq (tgt := 16) (or_rng q2) dX9_never_5 (by decide) (fun h5 => ?_) (fun h5 => ?_)
  · have n5 := or_no q2 h5
    refine z_iconst dX9_never_16 ?_
    refine z_iret rfl ?_ dX9_never_17
    first
      | exact bad (fun z => n5 z.1)
      | exact bad (fun z => n16 z.2)
  · have n5 := or_yes q2 h5
    refine zaload_3_0 dX9_never_8 ?_
    refine ziload_3_2 dX9_never_9 ?_
    refine zc_Model_192 rfl dX9_never_10 (by decide) (Nat.le_of_ble_eq_true rfl) (sp_Model_isNotion M b (B 6 0) hb n1 (by omega)) (fun r10 M10 hq10 => ?_)
    refine z_withR (fun hR => ?_)
    have e10 := hq10.1.symm
    subst e10
    have q10 := hq10.2
    have q10 := or_if q10
    refine z_if_ne (tgt := 18) (or_rng q10) dX9_never_13 (by decide) (fun h13 => ?_) (fun h13 => ?_)
    · have n16 := or_yes q10 h13
      obtain ⟨a', rfl⟩ : ∃ a' : Nat, a = a' := ⟨a.toNat, by omega⟩
      obtain ⟨b', rfl⟩ : ∃ b' : Nat, b = b' := ⟨b.toNat, by omega⟩
      have hs := cSplit (B := B) (a := a') (b := b')
      have hm := (cMany_le (B := B) (n := a'))
      refine zaload_3_0 dX9_never_18 ?_
      refine zc_Model_206 rfl dX9_never_19 (by decide) (Nat.le_of_ble_eq_true rfl) (sp_Model_layRows M B h) (fun r19 M19 hq19 => ?_)
      refine z_withR (fun hR => ?_)
      obtain ⟨f11, r11'⟩ := hq19
      refine zaload_3_0 dX9_never_22 ?_
      refine ziload_3_1 dX9_never_23 ?_
      refine ziload_3_2 dX9_never_24 ?_
      refine zc_Model_209 rfl dX9_never_25 (by decide) (Nat.le_of_ble_eq_true rfl) (r11'.but (a := a') (b := b') (by omega) (by omega)) (fun r25 M25 hq25 => ?_)
      refine z_withR (fun hR => ?_)
      have e25 := hq25.1.symm
      subst e25
      have q25 := hq25.2
      subst q25
      refine zaload_3_0 dX9_never_28 ?_
      refine ziload_3_1 dX9_never_29 ?_
      refine zc_Model_213 rfl dX9_never_30 (by decide) (Nat.le_of_ble_eq_true rfl) (r11'.many (n := a') (by omega)) (fun r30 M30 hq30 => ?_)
      refine z_withR (fun hR => ?_)
      have e30 := hq30.1.symm
      subst e30
      have q30 := hq30.2
      subst q30
      refine z_icmp_ne (tgt := 40) (by first | omega | exact hR.1 _ _ (by decide) | exact zrng_toInt _) (by first | omega | exact hR.1 _ _ (by decide) | exact zrng_toInt _) dX9_never_33 (by decide) (fun h33 => ?_) (fun h33 => ?_)
      · refine z_iconst dX9_never_40 ?_
        refine z_iret rfl ?_ dX9_never_41
        unfold fNever
        rw [if_pos ⟨n5, n16⟩, Int.toNat_natCast, Int.toNat_natCast]
        refine ⟨?_, f11.up (by decide), r11'.1⟩
        first
          | (rw [if_pos (by omega)]; done)
          | (rw [if_neg (by omega)]; done)
      · refine z_iconst dX9_never_36 ?_
        refine z_goto (tgt := 41) dX9_never_37 (by decide) ?_
        refine z_iret rfl ?_ dX9_never_41
        unfold fNever
        rw [if_pos ⟨n5, n16⟩, Int.toNat_natCast, Int.toNat_natCast]
        refine ⟨?_, f11.up (by decide), r11'.1⟩
        first
          | (rw [if_pos (by omega)]; done)
          | (rw [if_neg (by omega)]; done)
    · have n16 := or_no q10 h13
      refine z_iconst dX9_never_16 ?_
      refine z_iret rfl ?_ dX9_never_17
      first
        | exact bad (fun z => n5 z.1)
        | exact bad (fun z => n16 z.2)
theorem sp_Model_yes (M : zMem) (B : Nat → Nat → Nat) (n v x y : Int) (hn : zrng n) (hv : zrng v) (hx : zrng x) (hy : zrng y) (h : abR M B) : zSp zd_Model_yes 5 [zr 9, zi n, zi v, zi x, zi y] M (fun r M' => rOK M M' B r (fYes B n v x y)) := by
  refine zSp_in 1 [some (zr 9), some (zi n), some (zi v), some (zi x), some (zi y), none] rfl rfl (by decide +kernel) rfl ?_
  refine z_withR (fun hR => ?_)
  have hl40 := lS_le (wK B)
  have hpa := lP_all (wK B)
  have hlT : lS (wK B) ≤ lT B := by have := lS_lT B; omega
  have bad : ∀ M1, zfr [9, 40, 41, 42, 43, 45, 46, 47, 52, 53] M M1 → rowsR M1 B → ¬ (inR n (B 6 0) ∧ inR v (lS (wK B))) → rOK M M1 B (-1) (fYes B n v x y) := by
    intro M1 f1 r1 hn
    unfold fYes
    rw [if_neg hn]
    exact ⟨rfl, f1.up (by decide), r1.1⟩
  refine zaload_6_0 dX9_yes_0 ?_
  refine zc_Model_206 rfl dX9_yes_1 (by decide) (Nat.le_of_ble_eq_true rfl) (sp_Model_layRows M B h) (fun r1 M1 hq1 => ?_)
  refine z_withR (fun hR => ?_)
  obtain ⟨f1, r1'⟩ := hq1
  obtain ⟨n1, n12, nw, n4⟩ := id r1'.1.1.2.2.2.2.1
  refine zaload_6_0 dX9_yes_4 ?_
  refine ziload_6_1 dX9_yes_5 ?_
  refine zc_Model_192 rfl dX9_yes_6 (by decide) (Nat.le_of_ble_eq_true rfl) (sp_Model_isNotion M1 n (B 6 0) hn n1 (by omega)) (fun r6 M6 hq6 => ?_)
  refine z_withR (fun hR => ?_)
  have e6 := hq6.1.symm
  subst e6
  have q6 := hq6.2
  have q6 := or_if q6
  refine z_if_eq (tgt := 28) (or_rng q6) dX9_yes_9 (by decide) (fun h9 => ?_) (fun h9 => ?_)
  · have n5 := or_no q6 h9
    refine z_iconst dX9_yes_28 ?_
    refine z_iret rfl ?_ dX9_yes_29
    first
      | exact bad _ f1 r1' (fun z => n5 z.1)
      | exact bad _ f1 r1' (fun z => yv z.2)
  · have n5 := or_yes q6 h9
    refine ziload_6_2 dX9_yes_12 ?_
    refine z_i2l (by first | omega | exact hR.1 _ _ (by decide) | exact zrng_toInt _) dX9_yes_13 ?_
    refine z_lconst 0 dX9_yes_14 rfl ?_
    refine zaload_6_0 dX9_yes_15 ?_
    refine zc_Model_181 rfl dX9_yes_16 (by decide) (Nat.le_of_ble_eq_true rfl) (sp_Model_onList M1 B r1'.2.1.2.1) (fun r16 M16 hq16 => ?_)
    refine z_withR (fun hR => ?_)
    have e16 := hq16.1.symm
    subst e16
    have q16 := hq16.2
    subst q16
    refine z_iconst dX9_yes_19 ?_
    refine z_isub dX9_yes_20 ?_
    refine z_i2l (by first | omega | exact hR.1 _ _ (by decide) | exact zrng_toInt _) dX9_yes_21 ?_
    refine zc_Model_105 rfl dX9_yes_22 (by decide) (Nat.le_of_ble_eq_true rfl) (sp_Model_in M1 v 0 ((lS (wK B) : Int) - 1) hv (by decide) (by unfold zrng; omega)) (fun r22 M22 hq22 => ?_)
    refine z_withR (fun hR => ?_)
    have e22 := hq22.1.symm
    subst e22
    have q22 := hq22.2
    have q22 := or_if q22
    refine z_if_ne (tgt := 30) (or_rng q22) dX9_yes_25 (by decide) (fun h25 => ?_) (fun h25 => ?_)
    · have y0 := or_yes q22 h25
      have yv : inR v (lS (wK B)) := ⟨y0.1, by omega⟩
      obtain ⟨v', rfl⟩ : ∃ v' : Nat, v = v' := ⟨v.toNat, by omega⟩
      obtain ⟨n', rfl⟩ : ∃ n' : Nat, n = n' := ⟨n.toNat, by omega⟩
      have hE := (lE_okA (q := wK B) (j := v') (by show v' < lT B; omega)).1
      obtain ⟨p1, p2, p3, p4⟩ := pe_ok hE
      have eL := r1'.2.1.2.2 v' (by omega)
      have hs3 := (okn_eSz (lE (wK B) v')).le
      refine zaload_6_0 dX9_yes_30 ?_
      refine zg_Model_48 rfl dX9_yes_31 ?_
      refine ziload_6_2 dX9_yes_34 ?_
      refine z_iald _ rfl (by decide) (by decide) rfl (by omega) dX9_yes_35 ?_
      refine z_top eL ?_
      refine zc_Model_120 rfl dX9_yes_36 (by decide) (Nat.le_of_ble_eq_true rfl) (sp_Model_sizeAt M1 (pe (lE (wK B) v')) p1) (fun r36 M36 hq36 => ?_)
      refine z_withR (fun hR => ?_)
      have e36 := hq36.1.symm
      subst e36
      have q36 := hq36.2
      rw [p2] at q36
      subst q36
      refine zistore_6_5 dX9_yes_39 ?_
      refine ziload_6_3 dX9_yes_41 ?_
      refine z_i2l (by first | omega | exact hR.1 _ _ (by decide) | exact zrng_toInt _) dX9_yes_42 ?_
      refine z_lconst 0 dX9_yes_43 rfl ?_
      refine ziload_6_5 dX9_yes_44 ?_
      refine z_iconst dX9_yes_46 ?_
      refine z_isub dX9_yes_47 ?_
      refine z_i2l (by first | omega | exact hR.1 _ _ (by decide) | exact zrng_toInt _) dX9_yes_48 ?_
      refine zc_Model_105 rfl dX9_yes_49 (by decide) (Nat.le_of_ble_eq_true rfl) (sp_Model_in M1 x 0 ((eSz (lE (wK B) v') : Int) - 1) hx (by decide) (by unfold zrng; omega)) (fun r49 M49 hq49 => ?_)
      refine z_withR (fun hR => ?_)
      have e49 := hq49.1.symm
      subst e49
      have q49 := hq49.2
      have q49 := or_if q49
      refine z_if_eq (tgt := 70) (or_rng q49) dX9_yes_52 (by decide) (fun h52 => ?_) (fun h52 => ?_)
      · have nx := or_no q49 h52
        have hno : ¬ (inR x (eSz (lE (wK B) v')) ∧ inR y (eSz (lE (wK B) v'))) := fun z => nx ⟨z.1.1, by have := z.1.2; omega⟩
        refine z_bipush dX9_yes_70 (by decide) ?_
        refine z_iret rfl ?_ dX9_yes_72
        unfold fYes
        rw [if_pos ⟨n5, yv⟩, Int.toNat_natCast, if_neg hno]
        exact ⟨rfl, f1.up (by decide), r1'.1⟩
      · have nx := or_yes q49 h52
        have ix : inR x (eSz (lE (wK B) v')) := ⟨nx.1, by omega⟩
        refine ziload_6_4 dX9_yes_55 ?_
        refine z_i2l (by first | omega | exact hR.1 _ _ (by decide) | exact zrng_toInt _) dX9_yes_57 ?_
        refine z_lconst 0 dX9_yes_58 rfl ?_
        refine ziload_6_5 dX9_yes_59 ?_
        refine z_iconst dX9_yes_61 ?_
        refine z_isub dX9_yes_62 ?_
        refine z_i2l (by first | omega | exact hR.1 _ _ (by decide) | exact zrng_toInt _) dX9_yes_63 ?_
        refine zc_Model_105 rfl dX9_yes_64 (by decide) (Nat.le_of_ble_eq_true rfl) (sp_Model_in M1 y 0 ((eSz (lE (wK B) v') : Int) - 1) hy (by decide) (by unfold zrng; omega)) (fun r64 M64 hq64 => ?_)
        refine z_withR (fun hR => ?_)
        have e64 := hq64.1.symm
        subst e64
        have q64 := hq64.2
        have q64 := or_if q64
        refine z_if_ne (tgt := 73) (or_rng q64) dX9_yes_67 (by decide) (fun h67 => ?_) (fun h67 => ?_)
        · have ny := or_yes q64 h67
          have iy : inR y (eSz (lE (wK B) v')) := ⟨ny.1, by omega⟩
          obtain ⟨x', rfl⟩ : ∃ x' : Nat, x = x' := ⟨x.toNat, by omega⟩
          obtain ⟨y', rfl⟩ : ∃ y' : Nat, y = y' := ⟨y.toNat, by omega⟩
          have hpl : x' * eSz (lE (wK B) v') + y' < lQ (wK B) v' := pair_lt (by omega) (by omega)
          have hlt := lP_lt (q := wK B) (m := lS (wK B)) (w := v') (by omega) hpl
          have hro := r1'.2.2.2 n' (by omega) v' (by omega) _ hpl
          obtain ⟨X, hX⟩ : ∃ X, X = x' * eSz (lE (wK B) v') := ⟨_, rfl⟩
          have cX : (eSz (lE (wK B) v') : Int) * (x' : Int) = (X : Int) := by rw [hX, Int.natCast_mul, Int.mul_comm]
          rw [← hX] at hro hlt hpl
          refine zaload_6_0 dX9_yes_73 ?_
          refine zg_Model_69 rfl dX9_yes_74 ?_
          refine z_sipush dX9_yes_77 (by decide) ?_
          refine ziload_6_1 dX9_yes_80 ?_
          refine z_imul dX9_yes_81 ?_
          refine zaload_6_0 dX9_yes_82 ?_
          refine zg_Model_51 rfl dX9_yes_83 ?_
          refine ziload_6_2 dX9_yes_86 ?_
          refine z_iald _ rfl (by decide) (by decide) rfl (by omega) dX9_yes_87 ?_
          refine z_top (r1'.2.2.1 v' (by omega)) ?_
          refine z_iadd dX9_yes_88 ?_
          refine ziload_6_5 dX9_yes_89 ?_
          refine ziload_6_3 dX9_yes_91 ?_
          refine z_imul dX9_yes_92 ?_
          rw [cX]
          refine z_iadd dX9_yes_93 ?_
          refine ziload_6_4 dX9_yes_94 ?_
          refine z_iadd dX9_yes_96 ?_
          refine z_zald (360 * n' + lP (wK B) v' + (X + y')) rfl (by decide) (by decide) (by omega) (by omega) dX9_yes_97 ?_
          refine z_top hro ?_
          refine z_if_eq (tgt := 105) (b01_r _) dX9_yes_98 (by decide) (fun h98 => ?_) (fun h98 => ?_)
          · have hb := b01_f h98
            refine z_iconst dX9_yes_105 ?_
            refine z_iret rfl ?_ dX9_yes_106
            unfold fYes
            rw [if_pos ⟨n5, yv⟩, Int.toNat_natCast, if_pos ⟨ix, iy⟩, Int.toNat_natCast, Int.toNat_natCast, Int.toNat_natCast, ← hX, hb]
            exact ⟨rfl, f1.up (by decide), r1'.1⟩
          · have hb := b01_t h98
            refine z_iconst dX9_yes_101 ?_
            refine z_goto (tgt := 106) dX9_yes_102 (by decide) ?_
            refine z_iret rfl ?_ dX9_yes_106
            unfold fYes
            rw [if_pos ⟨n5, yv⟩, Int.toNat_natCast, if_pos ⟨ix, iy⟩, Int.toNat_natCast, Int.toNat_natCast, Int.toNat_natCast, ← hX, hb]
            exact ⟨rfl, f1.up (by decide), r1'.1⟩
        · have ny := or_no q64 h67
          have hno : ¬ (inR x (eSz (lE (wK B) v')) ∧ inR y (eSz (lE (wK B) v'))) := fun z => ny ⟨z.2.1, by have := z.2.2; omega⟩
          refine z_bipush dX9_yes_70 (by decide) ?_
          refine z_iret rfl ?_ dX9_yes_72
          unfold fYes
          rw [if_pos ⟨n5, yv⟩, Int.toNat_natCast, if_neg hno]
          exact ⟨rfl, f1.up (by decide), r1'.1⟩
    · have y0 := or_no q22 h25
      have yv : ¬ inR v (lS (wK B)) := fun z => y0 ⟨z.1, by omega⟩
      refine z_iconst dX9_yes_28 ?_
      refine z_iret rfl ?_ dX9_yes_29
      first
        | exact bad _ f1 r1' (fun z => n5 z.1)
        | exact bad _ f1 r1' (fun z => yv z.2)
