def fnd (p : Nat → Bool) : Nat → Int
  | 0 => -9
  | n + 1 => if fnd p n = -9 then (if p n then (n : Int) else -9) else fnd p n
theorem fnd_none {p : Nat → Bool} : ∀ {n : Nat}, (∀ j, j < n → p j = false) → fnd p n = -9
  | 0, _ => rfl
  | n + 1, h => by
    rw [fnd, if_pos (fnd_none (fun j hj => h j (by omega))), h n (by omega)]
    rfl
theorem fnd_at {p : Nat → Bool} {i : Nat} (h1 : ∀ j, j < i → p j = false) (h2 : p i = true) : ∀ {n : Nat}, i < n → fnd p n = i
  | 0, h => absurd h (Nat.not_lt_zero _)
  | n + 1, h => by
    rw [fnd]
    by_cases e : i = n
    · rw [← e, if_pos (fnd_none h1), if_pos h2]
    · rw [if_neg, fnd_at h1 h2 (by omega)]
      rw [fnd_at h1 h2 (by omega)]
      omega
noncomputable def un (p : Int → Prop) : Int := Classical.epsilon p
theorem un_eq {p : Int → Prop} {r : Int} (hu : ∀ a b, p a → p b → a = b) (h : p r) : r = un p := hu _ _ h (Classical.epsilon_spec ⟨r, h⟩)
noncomputable def fBr (B : Nat → Nat → Nat) (n k : Nat) : Int := fnd (fun l => !kp (B 1) (B 2) n k (B 4 l) (B 5 l)) (B 3 0)
theorem sp_S_firstBroken (M : zMem) (B : Nat → Nat → Nat) (n k : Nat) (hn : okn n) (hk : k < 2147483648) (h : abC0 M B) : zSp zd_S_firstBroken 2 [zr 0, zi n, zi k] M (fun r M' => zfr [3, 15, 16] M M' ∧ r = fBr B n k) := by
  refine zSp_in 1 [some (zr 0), some (zi n), some (zi k), none] rfl rfl (by decide +kernel) rfl ?_
  refine z_withR (fun hR => ?_)
  have hT := h.1
  have hP := h.2.2.1
  have hP6 := hP.2.1
  have loop : ∀ (c l : Nat) (M1 : zMem), l + c = B 3 0 → zfr [3, 15, 16] M M1 → tbl M1 n k → (∀ j, j < l → kp (B 1) (B 2) n k (B 4 j) (B 5 j) = true) → zV zd_S_firstBroken 2 11 [some (zr 0), some (zi n), some (zi k), some (zi l)] [] M1 (fun r M' => zfr [3, 15, 16] M M' ∧ r = fBr B n k) := by
    intro c
    induction c with
    | zero =>
      intro l M1 hl hf ht hj
      have hp : M1 2 2 = B 3 0 := (hP.fr hf (by decide) (by decide) (by decide)).1
      refine z_withR (fun hR => ?_)
      refine ziload_4_3 dX8_firstBroken_11 ?_
      refine zaload_4_0 dX8_firstBroken_12 ?_
      refine zg_S_19 rfl dX8_firstBroken_13 ?_
      refine zg_S_96 rfl dX8_firstBroken_16 ?_
      refine z_top hp ?_
      refine z_icmp_ge (tgt := 62) (by first | omega | exact hR.1 _ _ (by decide) | exact zrng_toInt _) (by first | omega | exact hR.1 _ _ (by decide) | exact zrng_toInt _) dX8_firstBroken_19 (by decide) (fun h19 => ?_) (fun h19 => ?_)
      · refine z_bipush dX8_firstBroken_62 (by decide) ?_
        refine z_iret rfl ?_ dX8_firstBroken_64
        refine ⟨hf, ?_⟩
        unfold fBr
        rw [fnd_none (fun j hj2 => by rw [hj j (by omega)]; rfl)]
      · omega
    | succ c ih =>
      intro l M1 hl hf ht hj
      have hP1 := hP.fr hf (by decide) (by decide) (by decide)
      have hp : M1 2 2 = B 3 0 := hP1.1
      obtain ⟨⟨pA, pB⟩, pA2, pB2⟩ := hP1.2.2 l (by omega)
      have hT1 := hT.fr hf (by decide) (by decide) (by decide) (by decide)
      refine z_withR (fun hR => ?_)
      refine ziload_4_3 dX8_firstBroken_11 ?_
      refine zaload_4_0 dX8_firstBroken_12 ?_
      refine zg_S_19 rfl dX8_firstBroken_13 ?_
      refine zg_S_96 rfl dX8_firstBroken_16 ?_
      refine z_top hp ?_
      refine z_icmp_ge (tgt := 62) (by first | omega | exact hR.1 _ _ (by decide) | exact zrng_toInt _) (by first | omega | exact hR.1 _ _ (by decide) | exact zrng_toInt _) dX8_firstBroken_19 (by decide) (fun h19 => ?_) (fun h19 => ?_)
      · omega
      · refine zaload_4_0 dX8_firstBroken_22 ?_
        refine zg_S_26 rfl dX8_firstBroken_23 ?_
        refine zaload_4_0 dX8_firstBroken_26 ?_
        refine zg_S_10 rfl dX8_firstBroken_27 ?_
        refine zaload_4_0 dX8_firstBroken_30 ?_
        refine zg_S_19 rfl dX8_firstBroken_31 ?_
        refine zg_S_244 rfl dX8_firstBroken_34 ?_
        refine ziload_4_3 dX8_firstBroken_37 ?_
        refine z_iald _ rfl (by decide) (by decide) rfl (by omega) dX8_firstBroken_38 ?_
        refine z_top pA ?_
        refine zaload_4_0 dX8_firstBroken_39 ?_
        refine zg_S_19 rfl dX8_firstBroken_40 ?_
        refine zg_S_245 rfl dX8_firstBroken_43 ?_
        refine ziload_4_3 dX8_firstBroken_46 ?_
        refine z_iald _ rfl (by decide) (by decide) rfl (by omega) dX8_firstBroken_47 ?_
        refine z_top pB ?_
        refine zc_S_246 rfl dX8_firstBroken_48 (by decide) (Nat.le_of_ble_eq_true rfl) (sp_Table_keepsLaw M1 (B 1) (B 2) (B 0 0) n k (B 4 l) (B 5 l) hn ht hT1 pA2 pB2) (fun r48 M48 hq48 => ?_)
        refine z_withR (fun hR => ?_)
        obtain ⟨f48, q48⟩ := hq48
        have q48 := or_if q48
        refine z_if_ne (tgt := 56) (or_rng q48) dX8_firstBroken_51 (by decide) (fun h51 => ?_) (fun h51 => ?_)
        · have y := or_yes q48 h51
          refine ziinc_4_3 dX8_firstBroken_56 ?_
          refine z_goto (tgt := 11) dX8_firstBroken_59 (by decide) ?_
          exact ih (l + 1) M48 (by omega) (hf.tr f48 (by decide) (by decide)) ⟨by rw [f48 3 (by decide)]; exact ht.1, by rw [f48 15 (by decide)]; exact ht.2⟩ (fun j hj2 => by
            by_cases e : j = l
            · rw [e]; exact y
            · exact hj j (by omega))
        · have y := or_no q48 h51
          refine ziload_4_3 dX8_firstBroken_54 ?_
          refine z_iret rfl ?_ dX8_firstBroken_55
          refine ⟨hf.tr f48 (by decide) (by decide), ?_⟩
          unfold fBr
          rw [fnd_at (fun j hj2 => by rw [hj j hj2]; rfl) (by simpa using y) (by omega)]
  refine zaload_4_0 dX8_firstBroken_0 ?_
  refine zg_S_26 rfl dX8_firstBroken_1 ?_
  refine ziload_4_1 dX8_firstBroken_4 ?_
  refine ziload_4_2 dX8_firstBroken_5 ?_
  refine zc_S_125 rfl dX8_firstBroken_6 (by decide) (Nat.le_of_ble_eq_true rfl) (sp_Table_load M n k hn hk) (fun r6 M6 hq6 => ?_)
  refine z_withR (fun hR => ?_)
  refine z_iconst dX8_firstBroken_9 ?_
  refine zistore_4_3 dX8_firstBroken_10 ?_
  exact loop (B 3 0) 0 M6 (by omega) (hq6.1.up (by decide)) hq6.2 (fun j h => absurd h (Nat.not_lt_zero _))
abbrev isW (n k : Int) : Prop := (1 ≤ n ∧ n ≤ 3) ∧ 0 ≤ k ∧ k < cN n.toNat
theorem isW_ok {n k : Int} (h : isW n k) : ∃ n' k' : Nat, n = n' ∧ k = k' ∧ okn n' ∧ k' < cN n' ∧ k' < 2147483648 := by
  obtain ⟨⟨h1, h2⟩, h3, h4⟩ := h
  obtain ⟨n', rfl⟩ : ∃ n' : Nat, n = n' := ⟨n.toNat, by omega⟩
  obtain ⟨k', rfl⟩ : ∃ k' : Nat, k = k' := ⟨k.toNat, by omega⟩
  have hn : okn n' := by unfold okn; omega
  rw [Int.toNat_natCast] at h4
  have h5 : cN n' ≤ 19683 := by rcases hn with rfl | rfl | rfl <;> decide
  exact ⟨n', k', rfl, rfl, hn, by omega, by omega⟩
noncomputable def fBreaks (B : Nat → Nat → Nat) (n k : Int) : Int := if isW n k then fBr B n.toNat k.toNat else -2
noncomputable def fKeeps (B : Nat → Nat → Nat) (n k : Int) : Int := if isW n k then (if fBr B n.toNat k.toNat = -9 then 1 else 0) else -2
noncomputable def fPlain (n k : Int) : Int := if isW n k then (lst n.toNat k.toNat : Int) else -2
theorem abC.fr {S : List Nat} {M M' : zMem} {B : Nat → Nat → Nat} (h : abC M B) (hf : zfr S M M') (hS : ∀ c ∈ [1, 2, 4, 5, 6, 7, 8, 10, 11, 12, 13, 14, 17, 18, 19, 20, 21, 22, 23, 24, 25, 26, 27, 28, 29, 31, 33], c ∉ S) : abC M' B := ⟨h.1.fr hf (fun c hc => hS c (by revert c; decide)), h.2.1.fr hf (fun c hc => hS c (by revert c; decide)), h.2.2.fr hf (fun c hc => hS c (by revert c; decide))⟩
theorem fBr_rng {B : Nat → Nat → Nat} {n k : Nat} (hP : B 3 0 ≤ 6) : zrng (fBr B n k) := by
  have key : ∀ (p : Nat → Bool) (m : Nat), -9 ≤ fnd p m ∧ fnd p m ≤ m := by
    intro p m
    induction m with
    | zero =>
      rw [fnd]
      omega
    | succ m ih =>
      rw [fnd]
      split
      · split <;> omega
      · omega
  have := key (fun l => !kp (B 1) (B 2) n k (B 4 l) (B 5 l)) (B 3 0)
  unfold fBr zrng
  omega
theorem sp_S_keeps (M : zMem) (B : Nat → Nat → Nat) (n k : Int) (hn : zrng n) (hk : zrng k) (h : abC M B) : zSp zd_S_keeps 3 [zr 0, zi n, zi k] M (fun r M' => cOK M M' B r (fKeeps B n k)) := by
  refine zSp_in 0 [some (zr 0), some (zi n), some (zi k)] rfl rfl (by decide +kernel) rfl ?_
  refine z_withR (fun hR => ?_)
  have hP6 := h.1.2.2.1.2.1
  refine ziload_3_1 dX8_keeps_0 ?_
  refine ziload_3_2 dX8_keeps_1 ?_
  refine zc_S_118 rfl dX8_keeps_2 (by decide) (Nat.le_of_ble_eq_true rfl) (sp_S_isWorld M n k hn hk) (fun r2 M2 hq2 => ?_)
  refine z_withR (fun hR => ?_)
  have e2 := hq2.1.symm
  subst e2
  have q2 := hq2.2
  have q2 := or_if q2
  refine z_if_ne (tgt := 11) (or_rng q2) dX8_keeps_5 (by decide) (fun h5 => ?_) (fun h5 => ?_)
  · have y := or_yes q2 h5
    obtain ⟨n', k', rfl, rfl, hn', hk1, hk2⟩ := isW_ok y
    refine zaload_3_0 dX8_keeps_11 ?_
    refine ziload_3_1 dX8_keeps_12 ?_
    refine ziload_3_2 dX8_keeps_13 ?_
    refine zc_S_122 rfl dX8_keeps_14 (by decide) (Nat.le_of_ble_eq_true rfl) (sp_S_firstBroken M B n' k' hn' hk2 h.1) (fun r14 M14 hq14 => ?_)
    refine z_withR (fun hR => ?_)
    refine z_bipush dX8_keeps_17 (by decide) ?_
    refine z_icmp_ne (tgt := 26) (by rw [hq14.2]; exact fBr_rng hP6) (by first | omega | exact hR.1 _ _ (by decide) | exact zrng_toInt _) dX8_keeps_19 (by decide) (fun h19 => ?_) (fun h19 => ?_)
    · refine z_iconst dX8_keeps_26 ?_
      refine z_iret rfl ?_ dX8_keeps_27
      unfold fKeeps
      rw [if_pos y, Int.toNat_natCast, Int.toNat_natCast, ← hq14.2]
      refine ⟨?_, hq14.1.up (by decide), h.fr hq14.1 (by decide)⟩
      first
        | rw [if_pos h19]
        | rw [if_neg h19]
    · refine z_iconst dX8_keeps_22 ?_
      refine z_goto (tgt := 27) dX8_keeps_23 (by decide) ?_
      refine z_iret rfl ?_ dX8_keeps_27
      unfold fKeeps
      rw [if_pos y, Int.toNat_natCast, Int.toNat_natCast, ← hq14.2]
      refine ⟨?_, hq14.1.up (by decide), h.fr hq14.1 (by decide)⟩
      first
        | rw [if_pos h19]
        | rw [if_neg h19]
  · have y := or_no q2 h5
    refine z_bipush dX8_keeps_8 (by decide) ?_
    refine z_iret rfl ?_ dX8_keeps_10
    unfold fKeeps
    rw [if_neg y]
    exact ⟨rfl, zfr.rf, h⟩
theorem sp_S_breaks (M : zMem) (B : Nat → Nat → Nat) (n k : Int) (hn : zrng n) (hk : zrng k) (h : abC M B) : zSp zd_S_breaks 3 [zr 0, zi n, zi k] M (fun r M' => cOK M M' B r (fBreaks B n k)) := by
  refine zSp_in 0 [some (zr 0), some (zi n), some (zi k)] rfl rfl (by decide +kernel) rfl ?_
  refine z_withR (fun hR => ?_)
  refine ziload_3_1 dX8_breaks_0 ?_
  refine ziload_3_2 dX8_breaks_1 ?_
  refine zc_S_118 rfl dX8_breaks_2 (by decide) (Nat.le_of_ble_eq_true rfl) (sp_S_isWorld M n k hn hk) (fun r2 M2 hq2 => ?_)
  refine z_withR (fun hR => ?_)
  have e2 := hq2.1.symm
  subst e2
  have q2 := hq2.2
  have q2 := or_if q2
  refine z_if_ne (tgt := 11) (or_rng q2) dX8_breaks_5 (by decide) (fun h5 => ?_) (fun h5 => ?_)
  · have y := or_yes q2 h5
    obtain ⟨n', k', rfl, rfl, hn', hk1, hk2⟩ := isW_ok y
    refine zaload_3_0 dX8_breaks_11 ?_
    refine ziload_3_1 dX8_breaks_12 ?_
    refine ziload_3_2 dX8_breaks_13 ?_
    refine zc_S_122 rfl dX8_breaks_14 (by decide) (Nat.le_of_ble_eq_true rfl) (sp_S_firstBroken M B n' k' hn' hk2 h.1) (fun r14 M14 hq14 => ?_)
    refine z_withR (fun hR => ?_)
    refine z_iret rfl ?_ dX8_breaks_17
    unfold fBreaks
    rw [if_pos y, Int.toNat_natCast, Int.toNat_natCast]
    exact ⟨hq14.2, hq14.1.up (by decide), h.fr hq14.1 (by decide)⟩
  · have y := or_no q2 h5
    refine z_bipush dX8_breaks_8 (by decide) ?_
    refine z_iret rfl ?_ dX8_breaks_10
    unfold fBreaks
    rw [if_neg y]
    exact ⟨rfl, zfr.rf, h⟩
theorem sp_S_plain (M : zMem) (B : Nat → Nat → Nat) (n k : Int) (hn : zrng n) (hk : zrng k) (h : abC M B) : zSp zd_S_plain 3 [zr 0, zi n, zi k] M (fun r M' => cOK M M' B r (fPlain n k)) := by
  refine zSp_in 0 [some (zr 0), some (zi n), some (zi k)] rfl rfl (by decide +kernel) rfl ?_
  refine z_withR (fun hR => ?_)
  refine ziload_3_1 dX8_plain_0 ?_
  refine ziload_3_2 dX8_plain_1 ?_
  refine zc_S_118 rfl dX8_plain_2 (by decide) (Nat.le_of_ble_eq_true rfl) (sp_S_isWorld M n k hn hk) (fun r2 M2 hq2 => ?_)
  refine z_withR (fun hR => ?_)
  have e2 := hq2.1.symm
  subst e2
  have q2 := hq2.2
  have q2 := or_if q2
  refine z_if_ne (tgt := 11) (or_rng q2) dX8_plain_5 (by decide) (fun h5 => ?_) (fun h5 => ?_)
  · have y := or_yes q2 h5
    obtain ⟨n', k', rfl, rfl, hn', hk1, hk2⟩ := isW_ok y
    refine zaload_3_0 dX8_plain_11 ?_
    refine zg_S_26 rfl dX8_plain_12 ?_
    refine ziload_3_1 dX8_plain_15 ?_
    refine ziload_3_2 dX8_plain_16 ?_
    refine zc_S_125 rfl dX8_plain_17 (by decide) (Nat.le_of_ble_eq_true rfl) (sp_Table_load M n' k' hn' hk2) (fun r17 M17 hq17 => ?_)
    refine z_withR (fun hR => ?_)
    refine zaload_3_0 dX8_plain_20 ?_
    refine zg_S_26 rfl dX8_plain_21 ?_
    refine zc_S_129 rfl dX8_plain_24 (by decide) (Nat.le_of_ble_eq_true rfl) (sp_Table_leastNumber M17 n' k' hn' hq17.2) (fun r24 M24 hq24 => ?_)
    refine z_withR (fun hR => ?_)
    have e24 := hq24.1.symm
    subst e24
    have q24 := hq24.2
    refine z_iret rfl ?_ dX8_plain_27
    unfold fPlain
    rw [if_pos y, Int.toNat_natCast, Int.toNat_natCast]
    exact ⟨q24, hq17.1.up (by decide), h.fr hq17.1 (by decide)⟩
  · have y := or_no q2 h5
    refine z_bipush dX8_plain_8 (by decide) ?_
    refine z_iret rfl ?_ dX8_plain_10
    unfold fPlain
    rw [if_neg y]
    exact ⟨rfl, zfr.rf, h⟩
noncomputable def wmF (B : Nat → Nat → Nat) (n : Nat) (o : Bool) (i : Nat) : Nat := if wK B (sT n + i) then (if o then 1 else likes (eSz (sT n + i)) (eK (sT n + i))) else 0
noncomputable def fWorlds (B : Nat → Nat → Nat) (n : Int) (o : Bool) : Int := if 1 ≤ n ∧ n ≤ 3 then (fb_sm (wmF B n.toNat o) (cC n.toNat) : Int) else -2
theorem stl.kq {M : zMem} {B : Nat → Nat → Nat} (h : stl M B) : ∃ Kf, kepF M Kf ∧ (∀ e, e < 3341 → kq Kf (2 ^ B 3 0 - 1) e = wK B e) ∧ kfO B (B 3 0) Kf := by
  obtain ⟨h1, h2, h3, h4, h5, ⟨Kf, h6, h7⟩, Ws, h8⟩ := h
  exact ⟨Kf, h6, fun e he => h7.all he, h7⟩
theorem sp_S_worlds (M : zMem) (B : Nat → Nat → Nat) (n : Int) (o : Bool) (hn : zrng n) (h : abC M B) : zSp zd_S_worlds 6 [zr 0, zi n, zi (if o then 1 else 0)] M (fun r M' => cOK M M' B r (fWorlds B n o)) := by
  refine zSp_in 0 [some (zr 0), some (zi n), some (zi (if o then 1 else 0))] rfl rfl (by decide +kernel) rfl ?_
  refine z_withR (fun hR => ?_)
  have hP6 := h.1.2.2.1.2.1
  have hl : 2 ^ B 3 0 - 1 < 256 := Nat.lt_trans (p2_lt hP6) (by decide)
  refine ziload_3_1 dX8_worlds_0 ?_
  refine zc_S_100 rfl dX8_worlds_1 (by decide) (Nat.le_of_ble_eq_true rfl) (sp_S_isSize M n hn) (fun r1 M1 hq1 => ?_)
  refine z_withR (fun hR => ?_)
  have e1 := hq1.1.symm
  subst e1
  have q1 := hq1.2
  have q1 := or_if q1
  refine z_if_ne (tgt := 10) (or_rng q1) dX8_worlds_4 (by decide) (fun h4 => ?_) (fun h4 => ?_)
  · have y := or_yes q1 h4
    obtain ⟨n', rfl⟩ : ∃ n' : Nat, n = n' := ⟨n.toNat, by omega⟩
    have hn' : okn n' := by unfold okn; omega
    refine zaload_3_0 dX8_worlds_10 ?_
    refine zc_S_103 rfl dX8_worlds_11 (by decide) (Nat.le_of_ble_eq_true rfl) (sp_S_settle M B h) (fun r11 M11 hq11 => ?_)
    refine z_withR (fun hR => ?_)
    obtain ⟨f11, h0, hO, hs⟩ := hq11
    obtain ⟨Kf, k1, k2, k3⟩ := hs.kq
    refine zaload_3_0 dX8_worlds_14 ?_
    refine zg_S_35 rfl dX8_worlds_15 ?_
    refine ziload_3_1 dX8_worlds_18 ?_
    refine zaload_3_0 dX8_worlds_19 ?_
    refine zg_S_19 rfl dX8_worlds_20 ?_
    refine zc_S_106 rfl dX8_worlds_23 (by decide) (Nat.le_of_ble_eq_true rfl) (sp_Page_all M11 (B 3 0) hP6 h0.2.2.1.1) (fun r23 M23 hq23 => ?_)
    refine z_withR (fun hR => ?_)
    have e23 := hq23.1.symm
    subst e23
    have q23 := hq23.2
    subst q23
    refine ziload_3_2 dX8_worlds_26 ?_
    refine zc_S_110 rfl dX8_worlds_27 (by decide) (Nat.le_of_ble_eq_true rfl) (sp_Catalog_howMany M11 Kf n' (2 ^ B 3 0 - 1) o hn' hs.1.2 k1 hl) (fun r27 M27 hq27 => ?_)
    refine z_withR (fun hR => ?_)
    have e27 := hq27.1.symm
    subst e27
    have q27 := hq27.2
    refine z_iret rfl ?_ dX8_worlds_30
    refine ⟨?_, f11.up (by decide), h0, hO, hs.abK⟩
    unfold fWorlds
    rw [if_pos y, Int.toNat_natCast, q27]
    refine congrArg _ (fb_sm_cong (fun i hi => ?_))
    unfold hmF wmF
    rw [k2 _ (eSz_of hn' hi).2]
  · have y := or_no q1 h4
    refine z_bipush dX8_worlds_7 (by decide) ?_
    refine z_iret rfl ?_ dX8_worlds_9
    unfold fWorlds
    rw [if_neg y]
    exact ⟨rfl, zfr.rf, h⟩
noncomputable def pNum (B : Nat → Nat → Nat) (n : Nat) (i r : Int) : Prop := (∃ j, j < cC n ∧ wK B (sT n + j) = true ∧ (fb_ct (fun j => wK B (sT n + j)) j : Int) = i ∧ r = eK (sT n + j)) ∨ (r = -9 ∧ ∀ j, j < cC n → wK B (sT n + j) = true → ¬ (fb_ct (fun j => wK B (sT n + j)) j : Int) = i)
theorem pNum_one {B : Nat → Nat → Nat} {n : Nat} {i : Int} : ∀ a b, pNum B n i a → pNum B n i b → a = b := by
  intro a b ha hb
  rcases ha with ⟨j, h1, h2, h3, h4⟩ | ⟨h1, h2⟩ <;> rcases hb with ⟨j', k1, k2, k3, k4⟩ | ⟨k1, k2⟩
  · have e : j = j' := fb_ct_kth_one (p := fun j => wK B (sT n + j)) h2 k2 (by omega)
    rw [h4, k4, e]
  · exact absurd h3 (k2 j h1 h2)
  · exact absurd k3 (h2 j' k1 k2)
  · rw [h1, k1]
noncomputable def fNum (B : Nat → Nat → Nat) (n i : Int) : Int := if 1 ≤ n ∧ n ≤ 3 then un (pNum B n.toNat i) else -2
theorem sp_S_number (M : zMem) (B : Nat → Nat → Nat) (n i : Int) (hn : zrng n) (hi : zrng i) (h : abC M B) : zSp zd_S_number 6 [zr 0, zi n, zi i] M (fun r M' => cOK M M' B r (fNum B n i)) := by
  refine zSp_in 0 [some (zr 0), some (zi n), some (zi i)] rfl rfl (by decide +kernel) rfl ?_
  refine z_withR (fun hR => ?_)
  have hP6 := h.1.2.2.1.2.1
  have hl : 2 ^ B 3 0 - 1 < 256 := Nat.lt_trans (p2_lt hP6) (by decide)
  refine ziload_3_1 dX8_number_0 ?_
  refine zc_S_100 rfl dX8_number_1 (by decide) (Nat.le_of_ble_eq_true rfl) (sp_S_isSize M n hn) (fun r1 M1 hq1 => ?_)
  refine z_withR (fun hR => ?_)
  have e1 := hq1.1.symm
  subst e1
  have q1 := hq1.2
  have q1 := or_if q1
  refine z_if_ne (tgt := 10) (or_rng q1) dX8_number_4 (by decide) (fun h4 => ?_) (fun h4 => ?_)
  · have y := or_yes q1 h4
    obtain ⟨n', rfl⟩ : ∃ n' : Nat, n = n' := ⟨n.toNat, by omega⟩
    have hn' : okn n' := by unfold okn; omega
    refine zaload_3_0 dX8_number_10 ?_
    refine zc_S_103 rfl dX8_number_11 (by decide) (Nat.le_of_ble_eq_true rfl) (sp_S_settle M B h) (fun r11 M11 hq11 => ?_)
    refine z_withR (fun hR => ?_)
    obtain ⟨f11, h0, hO, hs⟩ := hq11
    obtain ⟨Kf, k1, k2, k3⟩ := hs.kq
    refine zaload_3_0 dX8_number_14 ?_
    refine zg_S_35 rfl dX8_number_15 ?_
    refine ziload_3_1 dX8_number_18 ?_
    refine zaload_3_0 dX8_number_19 ?_
    refine zg_S_19 rfl dX8_number_20 ?_
    refine zc_S_106 rfl dX8_number_23 (by decide) (Nat.le_of_ble_eq_true rfl) (sp_Page_all M11 (B 3 0) hP6 h0.2.2.1.1) (fun r23 M23 hq23 => ?_)
    refine z_withR (fun hR => ?_)
    have e23 := hq23.1.symm
    subst e23
    have q23 := hq23.2
    subst q23
    refine ziload_3_2 dX8_number_26 ?_
    refine zc_S_114 rfl dX8_number_27 (by decide) (Nat.le_of_ble_eq_true rfl) (sp_Catalog_numberOf M11 Kf n' (2 ^ B 3 0 - 1) i hi hn' hs.1.2 k1 hl) (fun r27 M27 hq27 => ?_)
    refine z_withR (fun hR => ?_)
    have e27 := hq27.1.symm
    subst e27
    have q27 := hq27.2
    refine z_iret rfl ?_ dX8_number_30
    refine ⟨?_, f11.up (by decide), h0, hO, hs.abK⟩
    unfold fNum
    rw [if_pos y, Int.toNat_natCast]
    refine un_eq pNum_one ?_
    have kk : ∀ j, j < cC n' → kq Kf (2 ^ B 3 0 - 1) (sT n' + j) = wK B (sT n' + j) := fun j hj => k2 _ (eSz_of hn' hj).2
    have ct : ∀ j, j ≤ cC n' → fb_ct (fun j => kq Kf (2 ^ B 3 0 - 1) (sT n' + j)) j = fb_ct (fun j => wK B (sT n' + j)) j := fun j hj => fb_ct_to (fun i hi => kk i (by omega))
    rcases q27 with ⟨j, a1, a2, a3, a4⟩ | ⟨a1, a2⟩
    · exact Or.inl ⟨j, a1, by rw [← kk j a1]; exact a2, by rw [← ct j (by omega)]; exact a3, a4⟩
    · exact Or.inr ⟨a1, fun j j1 j2 => by rw [← ct j (by omega)]; exact a2 j j1 (by rw [kk j j1]; exact j2)⟩
  · have y := or_no q1 h4
    refine z_bipush dX8_number_7 (by decide) ?_
    refine z_iret rfl ?_ dX8_number_9
    unfold fNum
    rw [if_neg y]
    exact ⟨rfl, zfr.rf, h⟩
noncomputable def fList (B : Nat → Nat → Nat) (w : Int) : Int := if w = 0 then (lS (wK B) : Int) else if w = 1 then (lP (wK B) (lS (wK B)) : Int) else -2
theorem sp_S_list (M : zMem) (B : Nat → Nat → Nat) (w : Int) (hw : zrng w) (h : abC M B) : zSp zd_S_list 6 [zr 0, zi w] M (fun r M' => cOK M M' B r (fList B w)) := by
  refine zSp_in 0 [some (zr 0), some (zi w)] rfl rfl (by decide +kernel) rfl ?_
  refine z_withR (fun hR => ?_)
  refine ziload_2_1 dX8_list_0 ?_
  refine z_if_eq (tgt := 12) (by first | omega | exact hR.1 _ _ (by decide) | exact zrng_toInt _) dX8_list_1 (by decide) (fun h1 => ?_) (fun h1 => ?_)
  · refine zaload_2_0 dX8_list_12 ?_
    refine zc_S_103 rfl dX8_list_13 (by decide) (Nat.le_of_ble_eq_true rfl) (sp_S_settle M B h) (fun r13 M13 hq13 => ?_)
    refine z_withR (fun hR => ?_)
    obtain ⟨f13, h0, hO, hs⟩ := hq13
    obtain ⟨_, _, _, _, _, _, Ws, hrd⟩ := id hs
    refine ziload_2_1 dX8_list_16 ?_
    refine z_if_ne (tgt := 30) (by first | omega | exact hR.1 _ _ (by decide) | exact zrng_toInt _) dX8_list_17 (by decide) (fun h17 => ?_) (fun h17 => ?_)
    · refine zaload_2_0 dX8_list_30 ?_
      refine zg_S_51 rfl dX8_list_31 ?_
      refine zg_S_133 rfl dX8_list_34 ?_
      refine z_iret rfl ?_ dX8_list_37
      refine ⟨?_, f13.up (by decide), h0, hO, hs.abK⟩
      unfold fList
      first
        | (rw [if_pos h17]; exact hrd.1.1)
        | (rw [if_neg h17, if_pos h6]; exact hrd.1.2.1)
        | omega
    · refine zaload_2_0 dX8_list_20 ?_
      refine zg_S_51 rfl dX8_list_21 ?_
      refine zg_S_132 rfl dX8_list_24 ?_
      refine z_goto (tgt := 37) dX8_list_27 (by decide) ?_
      refine z_iret rfl ?_ dX8_list_37
      refine ⟨?_, f13.up (by decide), h0, hO, hs.abK⟩
      unfold fList
      first
        | (rw [if_pos h17]; exact hrd.1.1)
        | (rw [if_neg h17, if_pos h6]; exact hrd.1.2.1)
        | omega
  · refine ziload_2_1 dX8_list_4 ?_
    refine z_iconst dX8_list_5 ?_
    refine z_icmp_eq (tgt := 12) (by first | omega | exact hR.1 _ _ (by decide) | exact zrng_toInt _) (by first | omega | exact hR.1 _ _ (by decide) | exact zrng_toInt _) dX8_list_6 (by decide) (fun h6 => ?_) (fun h6 => ?_)
    · refine zaload_2_0 dX8_list_12 ?_
      refine zc_S_103 rfl dX8_list_13 (by decide) (Nat.le_of_ble_eq_true rfl) (sp_S_settle M B h) (fun r13 M13 hq13 => ?_)
      refine z_withR (fun hR => ?_)
      obtain ⟨f13, h0, hO, hs⟩ := hq13
      obtain ⟨_, _, _, _, _, _, Ws, hrd⟩ := id hs
      refine ziload_2_1 dX8_list_16 ?_
      refine z_if_ne (tgt := 30) (by first | omega | exact hR.1 _ _ (by decide) | exact zrng_toInt _) dX8_list_17 (by decide) (fun h17 => ?_) (fun h17 => ?_)
      · refine zaload_2_0 dX8_list_30 ?_
        refine zg_S_51 rfl dX8_list_31 ?_
        refine zg_S_133 rfl dX8_list_34 ?_
        refine z_iret rfl ?_ dX8_list_37
        refine ⟨?_, f13.up (by decide), h0, hO, hs.abK⟩
        unfold fList
        first
          | (rw [if_pos h17]; exact hrd.1.1)
          | (rw [if_neg h17, if_pos h6]; exact hrd.1.2.1)
          | omega
      · refine zaload_2_0 dX8_list_20 ?_
        refine zg_S_51 rfl dX8_list_21 ?_
        refine zg_S_132 rfl dX8_list_24 ?_
        refine z_goto (tgt := 37) dX8_list_27 (by decide) ?_
        refine z_iret rfl ?_ dX8_list_37
        refine ⟨?_, f13.up (by decide), h0, hO, hs.abK⟩
        unfold fList
        first
          | (rw [if_pos h17]; exact hrd.1.1)
          | (rw [if_neg h17, if_pos h6]; exact hrd.1.2.1)
          | omega
    · refine z_bipush dX8_list_9 (by decide) ?_
      refine z_iret rfl ?_ dX8_list_11
      unfold fList
      rw [if_neg h1, if_neg h6]
      exact ⟨rfl, zfr.rf, h⟩
noncomputable def fWorld (B : Nat → Nat → Nat) (v w : Int) : Int := if inR v (lS (wK B)) then (if w = 0 then (eSz (lE (wK B) v.toNat) : Int) else if w = 1 then (eK (lE (wK B) v.toNat) : Int) else -2) else -1
theorem sp_S_world (M : zMem) (B : Nat → Nat → Nat) (v w : Int) (hv : zrng v) (hw : zrng w) (h : abC M B) : zSp zd_S_world 6 [zr 0, zi v, zi w] M (fun r M' => cOK M M' B r (fWorld B v w)) := by
  refine zSp_in 0 [some (zr 0), some (zi v), some (zi w)] rfl rfl (by decide +kernel) rfl ?_
  refine z_withR (fun hR => ?_)
  refine zaload_3_0 dX8_world_0 ?_
  refine zc_S_103 rfl dX8_world_1 (by decide) (Nat.le_of_ble_eq_true rfl) (sp_S_settle M B h) (fun r1 M1 hq1 => ?_)
  refine z_withR (fun hR => ?_)
  obtain ⟨f1, h0, hO, hs⟩ := hq1
  obtain ⟨⟨_, hcat⟩, _, _, _, _, _, Ws, hrd⟩ := id hs
  have hlen := lS_le (wK B)
  refine zaload_3_0 dX8_world_4 ?_
  refine zg_S_51 rfl dX8_world_5 ?_
  refine ziload_3_1 dX8_world_8 ?_
  refine zc_S_136 rfl dX8_world_9 (by decide) (Nat.le_of_ble_eq_true rfl) (sp_Rows_has M1 v hv) (fun r9 M9 hq9 => ?_)
  refine z_withR (fun hR => ?_)
  have e9 := hq9.1.symm
  subst e9
  have q9 := hq9.2
  rw [hrd.1.1] at q9
  have q9 := or_if q9
  refine z_if_ne (tgt := 17) (or_rng q9) dX8_world_12 (by decide) (fun h12 => ?_) (fun h12 => ?_)
  · have y := or_yes q9 h12
    obtain ⟨v', rfl⟩ : ∃ v' : Nat, v = v' := ⟨v.toNat, by omega⟩
    have hE := (hrd.1.2.2 v' (by omega)).1
    have hE2 := (lE_ok (q := wK B) (j := v') (by omega)).1
    have hE3 := (hcat _ hE2).1
    refine ziload_3_2 dX8_world_17 ?_
    refine z_if_eq (tgt := 29) (by first | omega | exact hR.1 _ _ (by decide) | exact zrng_toInt _) dX8_world_18 (by decide) (fun h18 => ?_) (fun h18 => ?_)
    · refine ziload_3_2 dX8_world_29 ?_
      refine z_if_ne (tgt := 44) (by first | omega | exact hR.1 _ _ (by decide) | exact zrng_toInt _) dX8_world_30 (by decide) (fun h30 => ?_) (fun h30 => ?_)
      · refine zaload_3_0 dX8_world_44 ?_
        refine zg_S_35 rfl dX8_world_45 ?_
        refine zg_S_141 rfl dX8_world_48 ?_
        refine zaload_3_0 dX8_world_51 ?_
        refine zg_S_51 rfl dX8_world_52 ?_
        refine zg_S_144 rfl dX8_world_55 ?_
        refine ziload_3_1 dX8_world_58 ?_
        refine z_iald _ rfl (by decide) (by decide) rfl (by omega) dX8_world_59 ?_
        refine z_top hE ?_
        refine z_iald _ rfl (by decide) (by decide) rfl (by omega) dX8_world_60 ?_
        refine z_top hE3 ?_
        refine z_iret rfl ?_ dX8_world_61
        refine ⟨?_, f1.up (by decide), h0, hO, hs.abK⟩
        unfold fWorld
        rw [if_pos y, Int.toNat_natCast]
        first
          | (rw [if_pos h30]; exact q38)
          | (rw [if_neg h30, if_pos h23])
          | omega
      · refine zaload_3_0 dX8_world_33 ?_
        refine zg_S_51 rfl dX8_world_34 ?_
        refine ziload_3_1 dX8_world_37 ?_
        refine zc_S_137 rfl dX8_world_38 (by decide) (Nat.le_of_ble_eq_true rfl) (sp_Rows_sizeAt M1 (wK B) v' hrd.1 (by omega)) (fun r38 M38 hq38 => ?_)
        refine z_withR (fun hR => ?_)
        have e38 := hq38.1.symm
        subst e38
        have q38 := hq38.2
        refine z_goto (tgt := 61) dX8_world_41 (by decide) ?_
        refine z_iret rfl ?_ dX8_world_61
        refine ⟨?_, f1.up (by decide), h0, hO, hs.abK⟩
        unfold fWorld
        rw [if_pos y, Int.toNat_natCast]
        first
          | (rw [if_pos h30]; exact q38)
          | (rw [if_neg h30, if_pos h23])
          | omega
    · refine ziload_3_2 dX8_world_21 ?_
      refine z_iconst dX8_world_22 ?_
      refine z_icmp_eq (tgt := 29) (by first | omega | exact hR.1 _ _ (by decide) | exact zrng_toInt _) (by first | omega | exact hR.1 _ _ (by decide) | exact zrng_toInt _) dX8_world_23 (by decide) (fun h23 => ?_) (fun h23 => ?_)
      · refine ziload_3_2 dX8_world_29 ?_
        refine z_if_ne (tgt := 44) (by first | omega | exact hR.1 _ _ (by decide) | exact zrng_toInt _) dX8_world_30 (by decide) (fun h30 => ?_) (fun h30 => ?_)
        · refine zaload_3_0 dX8_world_44 ?_
          refine zg_S_35 rfl dX8_world_45 ?_
          refine zg_S_141 rfl dX8_world_48 ?_
          refine zaload_3_0 dX8_world_51 ?_
          refine zg_S_51 rfl dX8_world_52 ?_
          refine zg_S_144 rfl dX8_world_55 ?_
          refine ziload_3_1 dX8_world_58 ?_
          refine z_iald _ rfl (by decide) (by decide) rfl (by omega) dX8_world_59 ?_
          refine z_top hE ?_
          refine z_iald _ rfl (by decide) (by decide) rfl (by omega) dX8_world_60 ?_
          refine z_top hE3 ?_
          refine z_iret rfl ?_ dX8_world_61
          refine ⟨?_, f1.up (by decide), h0, hO, hs.abK⟩
          unfold fWorld
          rw [if_pos y, Int.toNat_natCast]
          first
            | (rw [if_pos h30]; exact q38)
            | (rw [if_neg h30, if_pos h23])
            | omega
        · refine zaload_3_0 dX8_world_33 ?_
          refine zg_S_51 rfl dX8_world_34 ?_
          refine ziload_3_1 dX8_world_37 ?_
          refine zc_S_137 rfl dX8_world_38 (by decide) (Nat.le_of_ble_eq_true rfl) (sp_Rows_sizeAt M1 (wK B) v' hrd.1 (by omega)) (fun r38 M38 hq38 => ?_)
          refine z_withR (fun hR => ?_)
          have e38 := hq38.1.symm
          subst e38
          have q38 := hq38.2
          refine z_goto (tgt := 61) dX8_world_41 (by decide) ?_
          refine z_iret rfl ?_ dX8_world_61
          refine ⟨?_, f1.up (by decide), h0, hO, hs.abK⟩
          unfold fWorld
          rw [if_pos y, Int.toNat_natCast]
          first
            | (rw [if_pos h30]; exact q38)
            | (rw [if_neg h30, if_pos h23])
            | omega
      · refine z_bipush dX8_world_26 (by decide) ?_
        refine z_iret rfl ?_ dX8_world_28
        unfold fWorld
        rw [if_pos y, if_neg h18, if_neg h23]
        exact ⟨rfl, f1.up (by decide), h0, hO, hs.abK⟩
  · have y := or_no q9 h12
    refine z_iconst dX8_world_15 ?_
    refine z_iret rfl ?_ dX8_world_16
    unfold fWorld
    rw [if_neg y]
    exact ⟨rfl, f1.up (by decide), h0, hO, hs.abK⟩
