theorem abR.after {M M' : zMem} {B : Nat → Nat → Nat} (h : abR M B) (hf : zfr [9, 40, 41, 42, 43, 45, 46] M M') (g9 : ∀ i, i ≠ 7 → i ≠ 8 → i ≠ 15 → i ≠ 25 → M' 9 i = M 9 i) (h7 : M' 9 7 = 1) (hl : laid M' B) (hc : M 9 7 = 1 ∧ M' = M ∨ M' 9 25 = 0) : abR M' B := by
  rcases hc with ⟨_, rfl⟩ | h25
  · exact h
  · exact ⟨h.1.fr hf (by decide) (g9 _ (by decide) (by decide) (by decide) (by decide)) (g9 _ (by decide) (by decide) (by decide) (by decide)) (g9 _ (by decide) (by decide) (by decide) (by decide)), Or.inr ⟨h7, hl, Or.inl h25⟩⟩
theorem abR.cache {M : zMem} {B : Nat → Nat → Nat} (h : abR M B) : M 9 7 = 0 ∨ M 9 7 = 1 ∧ laid M B := h.2.imp id (fun z => ⟨z.1, z.2.1⟩)
theorem fnd_ge {p : Nat → Bool} : ∀ {n : Nat}, fnd p n = -9 → ∀ j, j < n → p j = false
  | 0, _, j, hj => absurd hj (Nat.not_lt_zero _)
  | n + 1, h, j, hj => by
    rw [fnd] at h
    by_cases e : fnd p n = -9
    · rw [if_pos e] at h
      by_cases ej : j = n
      · rw [ej]
        cases hp : p n
        · rfl
        · rw [hp] at h
          simp only [if_true] at h
          omega
      · exact fnd_ge e j (by omega)
    · rw [if_neg e] at h; exact absurd h e
theorem fBr_iff {B : Nat → Nat → Nat} {n k : Nat} (hn : okn n) (hk : k < cN n) : fBr B n k = -9 ↔ bKp B (pb n + k) = true := by
  obtain ⟨e1, e2, e3⟩ := pz_of hn hk
  unfold bKp
  rw [e1, e2, decide_eq_true_iff]
  constructor
  · intro h l hl
    have := fnd_ge h l hl
    simpa using this
  · intro h
    exact fnd_none (fun j hj => by rw [h j hj]; rfl)
theorem pb_le {n : Nat} (hn : okn n) : pb n ≤ 17 := by rcases hn with rfl | rfl | rfl <;> decide
theorem sp_Model_keeps (M : zMem) (B : Nat → Nat → Nat) (n k : Int) (hn : zrng n) (hk : zrng k) (h : abR M B) : zSp zd_Model_keeps 4 [zr 9, zi n, zi k] M (fun r M' => rOK M M' B r (fKeeps B n k)) := by
  refine zSp_in 0 [some (zr 9), some (zi n), some (zi k)] rfl rfl (by decide +kernel) rfl ?_
  refine z_withR (fun hR => ?_)
  have hP6 := h.1.2.2.2.1.2.1
  refine ziload_3_1 dX9_keeps_0 ?_
  refine ziload_3_2 dX9_keeps_1 ?_
  refine zc_Model_178 rfl dX9_keeps_2 (by decide) (Nat.le_of_ble_eq_true rfl) (sp_Model_isWorldOf M n k hn hk) (fun r2 M2 hq2 => ?_)
  refine z_withR (fun hR => ?_)
  have e2 := hq2.1.symm
  subst e2
  have q2 := hq2.2
  have q2 := or_if q2
  refine z_if_ne (tgt := 11) (or_rng q2) dX9_keeps_5 (by decide) (fun h5 => ?_) (fun h5 => ?_)
  · have y := or_yes q2 h5
    obtain ⟨n', k', rfl, rfl, hn', hk1, hk2⟩ := isW_ok y
    have hpb := pb_le hn'
    obtain ⟨e1, e2, e3⟩ := pz_of hn' hk1
    refine zaload_3_0 dX9_keeps_11 ?_
    refine zc_Model_175 rfl dX9_keeps_12 (by decide) (Nat.le_of_ble_eq_true rfl) (sp_Model_layAll M B h.1.1 h.1.2.2.2.1 h.cache) (fun r12 M12 hq12 => ?_)
    refine z_withR (fun hR => ?_)
    obtain ⟨f12, g12, i12, l12, c12⟩ := hq12
    have hab := h.after f12 g12 i12 l12 c12
    have hb := l12.1 (pb n' + k') e3
    have hbl : brN B (pb n' + k') < 2 ^ 6 := Nat.lt_of_lt_of_le (bm_lt _ _) (Nat.pow_le_pow_right (by decide) hP6)
    refine zaload_3_0 dX9_keeps_15 ?_
    refine zg_Model_39 rfl dX9_keeps_16 ?_
    refine ziload_3_1 dX9_keeps_19 ?_
    refine zc_Model_127 rfl dX9_keeps_20 (by decide) (Nat.le_of_ble_eq_true rfl) (sp_Model_baseOf M12 n' hn') (fun r20 M20 hq20 => ?_)
    refine z_withR (fun hR => ?_)
    have e20 := hq20.1.symm
    subst e20
    have q20 := hq20.2
    subst q20
    refine ziload_3_2 dX9_keeps_23 ?_
    refine z_iadd dX9_keeps_24 ?_
    refine z_iald (pb n' + k') rfl (by decide) (by decide) (by omega) (by omega) dX9_keeps_25 ?_
    refine z_top hb ?_
    refine z_if_ne (tgt := 33) (by first | omega | exact hR.1 _ _ (by decide) | exact zrng_toInt _) dX9_keeps_26 (by decide) (fun h26 => ?_) (fun h26 => ?_)
    · refine z_iconst dX9_keeps_33 ?_
      refine z_iret rfl ?_ dX9_keeps_34
      refine ⟨?_, f12.up (by decide), hab⟩
      unfold fKeeps
      rw [if_pos y, Int.toNat_natCast, Int.toNat_natCast]
      first
        | (rw [if_pos ((fBr_iff hn' hk1).mpr (brN_zero.mp (by omega)))]; done)
        | (rw [if_neg (fun z => h26 (by rw [brN_zero.mpr ((fBr_iff hn' hk1).mp z)]; rfl))]; done)
    · refine z_iconst dX9_keeps_29 ?_
      refine z_goto (tgt := 34) dX9_keeps_30 (by decide) ?_
      refine z_iret rfl ?_ dX9_keeps_34
      refine ⟨?_, f12.up (by decide), hab⟩
      unfold fKeeps
      rw [if_pos y, Int.toNat_natCast, Int.toNat_natCast]
      first
        | (rw [if_pos ((fBr_iff hn' hk1).mpr (brN_zero.mp (by omega)))]; done)
        | (rw [if_neg (fun z => h26 (by rw [brN_zero.mpr ((fBr_iff hn' hk1).mp z)]; rfl))]; done)
  · have y := or_no q2 h5
    refine z_bipush dX9_keeps_8 (by decide) ?_
    refine z_iret rfl ?_ dX9_keeps_10
    unfold fKeeps
    rw [if_neg y]
    exact ⟨rfl, zfr.rf, h⟩
theorem sp_Model_plain (M : zMem) (B : Nat → Nat → Nat) (n k : Int) (hn : zrng n) (hk : zrng k) (h : abR M B) : zSp zd_Model_plain 4 [zr 9, zi n, zi k] M (fun r M' => rOK M M' B r (fPlain n k)) := by
  refine zSp_in 0 [some (zr 9), some (zi n), some (zi k)] rfl rfl (by decide +kernel) rfl ?_
  refine z_withR (fun hR => ?_)
  refine ziload_3_1 dX9_plain_0 ?_
  refine ziload_3_2 dX9_plain_1 ?_
  refine zc_Model_178 rfl dX9_plain_2 (by decide) (Nat.le_of_ble_eq_true rfl) (sp_Model_isWorldOf M n k hn hk) (fun r2 M2 hq2 => ?_)
  refine z_withR (fun hR => ?_)
  have e2 := hq2.1.symm
  subst e2
  have q2 := hq2.2
  have q2 := or_if q2
  refine z_if_ne (tgt := 11) (or_rng q2) dX9_plain_5 (by decide) (fun h5 => ?_) (fun h5 => ?_)
  · have y := or_yes q2 h5
    obtain ⟨n', k', rfl, rfl, hn', hk1, hk2⟩ := isW_ok y
    have hpb := pb_le hn'
    obtain ⟨e1, e2, e3⟩ := pz_of hn' hk1
    refine zaload_3_0 dX9_plain_11 ?_
    refine ziload_3_1 dX9_plain_12 ?_
    refine zc_Model_127 rfl dX9_plain_13 (by decide) (Nat.le_of_ble_eq_true rfl) (sp_Model_baseOf M n' hn') (fun r13 M13 hq13 => ?_)
    refine z_withR (fun hR => ?_)
    have e13 := hq13.1.symm
    subst e13
    have q13 := hq13.2
    subst q13
    refine ziload_3_2 dX9_plain_16 ?_
    refine z_iadd dX9_plain_17 ?_
    rw [← Int.natCast_add]
    refine zc_Model_138 rfl dX9_plain_18 (by decide) (Nat.le_of_ble_eq_true rfl) (sp_Model_layWorld M (pb n' + k') e3) (fun r18 M18 hq18 => ?_)
    refine z_withR (fun hR => ?_)
    obtain ⟨f18, g18, t18⟩ := hq18
    rw [e1, e2] at t18
    refine zaload_3_0 dX9_plain_21 ?_
    refine zc_Model_160 rfl dX9_plain_22 (by decide) (Nat.le_of_ble_eq_true rfl) (sp_Model_leastName M18 n' k' hn' hk1 t18) (fun r22 M22 hq22 => ?_)
    refine z_withR (fun hR => ?_)
    obtain ⟨f22, q22⟩ := hq22
    refine z_iret rfl ?_ dX9_plain_25
    have ff : zfr [9, 40, 45] M M22 := f18.tr f22 (by decide) (by decide)
    have gg : ∀ i, i ≠ 8 → M22 9 i = M 9 i := fun i hi => by rw [f22 9 (by decide)]; exact g18 i hi
    refine ⟨?_, ff.up (by decide), h.1.fr ff (by decide) (gg _ (by decide)) (gg _ (by decide)) (gg _ (by decide)), h.2.fr ff (by decide) (gg _ (by decide)) (gg _ (by decide)) (gg _ (by decide))⟩
    unfold fPlain
    rw [if_pos y, Int.toNat_natCast, Int.toNat_natCast]
    exact q22
  · have y := or_no q2 h5
    refine z_bipush dX9_plain_8 (by decide) ?_
    refine z_iret rfl ?_ dX9_plain_10
    unfold fPlain
    rw [if_neg y]
    exact ⟨rfl, zfr.rf, h⟩
theorem sp_Model_breaks (M : zMem) (B : Nat → Nat → Nat) (n k : Int) (hn : zrng n) (hk : zrng k) (h : abR M B) : zSp zd_Model_breaks 4 [zr 9, zi n, zi k] M (fun r M' => rOK M M' B r (fBreaks B n k)) := by
  refine zSp_in 1 [some (zr 9), some (zi n), some (zi k), none] rfl rfl (by decide +kernel) rfl ?_
  refine z_withR (fun hR => ?_)
  have hP6 := h.1.2.2.2.1.2.1
  obtain ⟨post, hpost⟩ : ∃ post : Int → zMem → Prop, post = (fun (r : Int) M' => rOK M M' B r (fBreaks B n k)) := ⟨_, rfl⟩
  rw [← hpost]
  have lp : ∀ (M1 : zMem) (n' k' : Nat), okn n' → k' < cN n' → M1 9 4 = (B 3 0 : Nat) → laid M1 B → (∀ r : Int, r = fBr B n' k' → post r M1) → ∀ (c l : Nat), l + c = B 3 0 → (∀ j, j < l → kp (B 1) (B 2) n' k' (B 4 j) (B 5 j) = true) → zV zd_Model_breaks 4 17 [some (zr 9), some (zi n'), some (zi k'), some (zi l)] [] M1 post := by
    intro M1 n' k' hn' hk1 hs l12 done c
    have hpb := pb_le hn'
    obtain ⟨e1, e2, e3⟩ := pz_of hn' hk1
    have hb := l12.1 (pb n' + k') e3
    have hbl : brN B (pb n' + k') < 2 ^ 6 := Nat.lt_of_lt_of_le (bm_lt _ _) (Nat.pow_le_pow_right (by decide) hP6)
    have hbit : ∀ l, l < B 3 0 → (brN B (pb n' + k')).testBit l = !kp (B 1) (B 2) n' k' (B 4 l) (B 5 l) := fun l hl => by
      unfold brN
      rw [bm_bit, e1, e2]
      simp [hl]
    generalize brN B (pb n' + k') = V at hb hbl hbit
    induction c with
    | zero =>
      intro l hl hj
      refine z_withR (fun hR => ?_)
      refine ziload_4_3 dX9_breaks_17 ?_
      refine zaload_4_0 dX9_breaks_18 ?_
      refine zg_Model_113 rfl dX9_breaks_19 ?_
      refine z_top hs ?_
      refine z_icmp_ge (tgt := 52) (by first | omega | exact hR.1 _ _ (by decide) | exact zrng_toInt _) (by first | omega | exact hR.1 _ _ (by decide) | exact zrng_toInt _) dX9_breaks_22 (by decide) (fun h22 => ?_) (fun h22 => ?_)
      · refine z_bipush dX9_breaks_52 (by decide) ?_
        refine z_iret rfl ?_ dX9_breaks_54
        exact done _ (by unfold fBr; rw [fnd_none (fun j hj2 => by rw [hj j (by omega)]; rfl)])
      · omega
    | succ c ih =>
      intro l hl hj
      have hbl2 := hbit l (by omega)
      have hzb := z_bit (a := V) (l := l) (by omega) (by omega)
      rw [hbl2] at hzb
      refine z_withR (fun hR => ?_)
      refine ziload_4_3 dX9_breaks_17 ?_
      refine zaload_4_0 dX9_breaks_18 ?_
      refine zg_Model_113 rfl dX9_breaks_19 ?_
      refine z_top hs ?_
      refine z_icmp_ge (tgt := 52) (by first | omega | exact hR.1 _ _ (by decide) | exact zrng_toInt _) (by first | omega | exact hR.1 _ _ (by decide) | exact zrng_toInt _) dX9_breaks_22 (by decide) (fun h22 => ?_) (fun h22 => ?_)
      · omega
      · refine zaload_4_0 dX9_breaks_25 ?_
        refine zg_Model_39 rfl dX9_breaks_26 ?_
        refine ziload_4_1 dX9_breaks_29 ?_
        refine zc_Model_127 rfl dX9_breaks_30 (by decide) (Nat.le_of_ble_eq_true rfl) (sp_Model_baseOf M1 n' hn') (fun r30 M30 hq30 => ?_)
        refine z_withR (fun hR => ?_)
        have e30 := hq30.1.symm
        subst e30
        have q30 := hq30.2
        subst q30
        refine ziload_4_2 dX9_breaks_33 ?_
        refine z_iadd dX9_breaks_34 ?_
        refine z_iald (pb n' + k') rfl (by decide) (by decide) (by omega) (by omega) dX9_breaks_35 ?_
        refine z_top hb ?_
        refine ziload_4_3 dX9_breaks_36 ?_
        refine z_ishr dX9_breaks_37 ?_
        refine z_iconst dX9_breaks_38 ?_
        refine z_iand dX9_breaks_39 ?_
        refine z_top hzb ?_
        refine z_iconst dX9_breaks_40 ?_
        refine z_icmp_ne (tgt := 46) (by split <;> decide) (by first | omega | exact hR.1 _ _ (by decide) | exact zrng_toInt _) dX9_breaks_41 (by decide) (fun h41 => ?_) (fun h41 => ?_)
        · have hk : kp (B 1) (B 2) n' k' (B 4 l) (B 5 l) = true := by
            cases hz : kp (B 1) (B 2) n' k' (B 4 l) (B 5 l)
            · rw [hz] at h41; exact absurd rfl h41
            · rfl
          refine ziinc_4_3 dX9_breaks_46 ?_
          refine z_goto (tgt := 17) dX9_breaks_49 (by decide) ?_
          exact ih (l + 1) (by omega) (fun j hj2 => by
            by_cases e : j = l
            · rw [e]; exact hk
            · exact hj j (by omega))
        · have hk : kp (B 1) (B 2) n' k' (B 4 l) (B 5 l) = false := by
            cases hz : kp (B 1) (B 2) n' k' (B 4 l) (B 5 l)
            · rfl
            · rw [hz] at h41; exact absurd h41 (by decide)
          refine ziload_4_3 dX9_breaks_44 ?_
          refine z_iret rfl ?_ dX9_breaks_45
          exact done _ (by unfold fBr; rw [fnd_at (fun j hj2 => by rw [hj j hj2]; rfl) (by rw [hk]; rfl) (by omega)])
  refine ziload_4_1 dX9_breaks_0 ?_
  refine ziload_4_2 dX9_breaks_1 ?_
  refine zc_Model_178 rfl dX9_breaks_2 (by decide) (Nat.le_of_ble_eq_true rfl) (sp_Model_isWorldOf M n k hn hk) (fun r2 M2 hq2 => ?_)
  refine z_withR (fun hR => ?_)
  have e2 := hq2.1.symm
  subst e2
  have q2 := hq2.2
  have q2 := or_if q2
  refine z_if_ne (tgt := 11) (or_rng q2) dX9_breaks_5 (by decide) (fun h5 => ?_) (fun h5 => ?_)
  · have y := or_yes q2 h5
    obtain ⟨n', k', rfl, rfl, hn', hk1, hk2⟩ := isW_ok y
    refine zaload_4_0 dX9_breaks_11 ?_
    refine zc_Model_175 rfl dX9_breaks_12 (by decide) (Nat.le_of_ble_eq_true rfl) (sp_Model_layAll M B h.1.1 h.1.2.2.2.1 h.cache) (fun r12 M12 hq12 => ?_)
    refine z_withR (fun hR => ?_)
    obtain ⟨f12, g12, i12, l12, c12⟩ := hq12
    have hab := h.after f12 g12 i12 l12 c12
    refine z_iconst dX9_breaks_15 ?_
    refine zistore_4_3 dX9_breaks_16 ?_
    exact lp M12 n' k' hn' hk1 hab.1.2.2.2.1.1 l12 (fun r hr => by rw [hpost]; exact ⟨by unfold fBreaks; rw [if_pos y, Int.toNat_natCast, Int.toNat_natCast]; exact hr, f12.up (by decide), hab⟩) (B 3 0) 0 (by omega) (fun j h => absurd h (Nat.not_lt_zero _))
  · have y := or_no q2 h5
    refine z_bipush dX9_breaks_8 (by decide) ?_
    refine z_iret rfl ?_ dX9_breaks_10
    rw [hpost]
    unfold fBreaks
    rw [if_neg y]
    exact ⟨rfl, zfr.rf, h⟩
