/-- the counts over THE LIST -/
noncomputable def cMany (B : Nat → Nat → Nat) (a : Nat) : Nat := lC (wK B) (fun w => bS B (lE (wK B) w) a) (lS (wK B))
noncomputable def cBut (B : Nat → Nat → Nat) (a b : Nat) : Nat := lC (wK B) (fun w j => bS B (lE (wK B) w) a j && !bS B (lE (wK B) w) b j) (lS (wK B))
noncomputable def agB (B : Nat → Nat → Nat) (a b : Nat) : Bool := decide (cBut B a b = 0) && decide (cBut B b a = 0)
theorem agB_iff {B : Nat → Nat → Nat} {a b : Nat} : agB B a b = true ↔ ∀ w, w < lS (wK B) → ∀ j, j < lQ (wK B) w → bS B (lE (wK B) w) a j = bS B (lE (wK B) w) b j := by
  unfold agB cBut
  rw [Bool.and_eq_true, decide_eq_true_iff, decide_eq_true_iff, lC_zero, lC_zero]
  constructor
  · intro ⟨h1, h2⟩ w hw j hj
    have a1 := h1 w hw j hj
    have a2 := h2 w hw j hj
    revert a1 a2
    cases bS B (lE (wK B) w) a j <;> cases bS B (lE (wK B) w) b j <;> simp
  · intro h
    constructor
    · intro w hw j hj
      rw [h w hw j hj]; simp
    · intro w hw j hj
      rw [h w hw j hj]; simp
noncomputable def fMany (B : Nat → Nat → Nat) (n : Int) : Int := if inR n (B 6 0) then (cMany B n.toNat : Int) else -1
noncomputable def fTwin (B : Nat → Nat → Nat) (n : Int) : Int := if inR n (B 6 0) then fnd (fun m => agB B m n.toNat) n.toNat else -1
noncomputable def fBut (B : Nat → Nat → Nat) (a b : Int) : Int := if inR a (B 6 0) ∧ inR b (B 6 0) then (cBut B a.toNat b.toNat : Int) else -1
noncomputable def fYes (B : Nat → Nat → Nat) (n v x y : Int) : Int := if inR n (B 6 0) ∧ inR v (lS (wK B)) then (if inR x (eSz (lE (wK B) v.toNat)) ∧ inR y (eSz (lE (wK B) v.toNat)) then (if bS B (lE (wK B) v.toNat) n.toNat (x.toNat * eSz (lE (wK B) v.toNat) + y.toNat) then 1 else 0) else -2) else -1
theorem sp_S_many (M : zMem) (B : Nat → Nat → Nat) (n : Int) (hn : zrng n) (h : abC M B) : zSp zd_S_many 6 [zr 0, zi n] M (fun r M' => cOK M M' B r (fMany B n)) := by
  refine zSp_in 0 [some (zr 0), some (zi n)] rfl rfl (by decide +kernel) rfl ?_
  refine z_withR (fun hR => ?_)
  have n1 := h.1.2.2.2.1.1
  have n12 := h.1.2.2.2.1.2.1
  refine zaload_2_0 dX8_many_0 ?_
  refine zg_S_42 rfl dX8_many_1 ?_
  refine ziload_2_1 dX8_many_4 ?_
  refine zc_S_152 rfl dX8_many_5 (by decide) (Nat.le_of_ble_eq_true rfl) (sp_Notions_has M n hn) (fun r5 M5 hq5 => ?_)
  refine z_withR (fun hR => ?_)
  have e5 := hq5.1.symm
  subst e5
  have q5 := hq5.2
  rw [n1] at q5
  have q5 := or_if q5
  refine z_if_ne (tgt := 13) (or_rng q5) dX8_many_8 (by decide) (fun h8 => ?_) (fun h8 => ?_)
  · have y := or_yes q5 h8
    obtain ⟨n', rfl⟩ : ∃ n' : Nat, n = n' := ⟨n.toNat, by omega⟩
    refine zaload_2_0 dX8_many_13 ?_
    refine zc_S_103 rfl dX8_many_14 (by decide) (Nat.le_of_ble_eq_true rfl) (sp_S_settle M B h) (fun r14 M14 hq14 => ?_)
    refine z_withR (fun hR => ?_)
    obtain ⟨f14, h0, hO, hs⟩ := hq14
    obtain ⟨⟨_, hcat⟩, _, _, _, _, _, Ws, hrd⟩ := id hs
    refine zaload_2_0 dX8_many_17 ?_
    refine zg_S_51 rfl dX8_many_18 ?_
    refine ziload_2_1 dX8_many_21 ?_
    refine zc_S_156 rfl dX8_many_22 (by decide) (Nat.le_of_ble_eq_true rfl) (sp_Rows_pairsOf M14 (wK B) (B 6 0) Ws (bS B) n' hrd n12 (by omega)) (fun r22 M22 hq22 => ?_)
    refine z_withR (fun hR => ?_)
    have e22 := hq22.1.symm
    subst e22
    have q22 := hq22.2
    refine z_iret rfl ?_ dX8_many_25
    refine ⟨?_, f14.up (by decide), h0, hO, hs.abK⟩
    unfold fMany
    rw [if_pos y, Int.toNat_natCast]
    exact q22
  · have y := or_no q5 h8
    refine z_iconst dX8_many_11 ?_
    refine z_iret rfl ?_ dX8_many_12
    unfold fMany
    rw [if_neg y]
    exact ⟨rfl, zfr.rf, h⟩
theorem sp_S_twin (M : zMem) (B : Nat → Nat → Nat) (n : Int) (hn : zrng n) (h : abC M B) : zSp zd_S_twin 6 [zr 0, zi n] M (fun r M' => cOK M M' B r (fTwin B n)) := by
  refine zSp_in 1 [some (zr 0), some (zi n), none] rfl rfl (by decide +kernel) rfl ?_
  refine z_withR (fun hR => ?_)
  have n1 := h.1.2.2.2.1.1
  have n12 := h.1.2.2.2.1.2.1
  obtain ⟨post, hpost⟩ : ∃ post : Int → zMem → Prop, post = (fun (r : Int) M' => cOK M M' B r (fTwin B n)) := ⟨_, rfl⟩
  rw [← hpost]
  have lp : ∀ (M1 : zMem) (Ws : Nat → Nat) (n' : Nat), rdy M1 (wK B) (B 6 0) Ws (bS B) → n' < B 6 0 → (∀ r : Int, r = fnd (fun m => agB B m n') n' → post r M1) → ∀ (c i : Nat), i + c = n' → (∀ j, j < i → agB B j n' = false) → zV zd_S_twin 6 19 [some (zr 0), some (zi n'), some (zi i)] [] M1 post := by
    intro M1 Ws n' hrd hn' done c
    induction c with
    | zero =>
      intro i hi hj
      refine z_withR (fun hR => ?_)
      refine ziload_3_2 dX8_twin_19 ?_
      refine ziload_3_1 dX8_twin_20 ?_
      refine z_icmp_ge (tgt := 44) (by first | omega | exact hR.1 _ _ (by decide) | exact zrng_toInt _) (by first | omega | exact hR.1 _ _ (by decide) | exact zrng_toInt _) dX8_twin_21 (by decide) (fun h21 => ?_) (fun h21 => ?_)
      · refine z_bipush dX8_twin_44 (by decide) ?_
        refine z_iret rfl ?_ dX8_twin_46
        exact done _ (by rw [fnd_none (fun j hj2 => hj j (by omega))])
      · omega
    | succ c ih =>
      intro i hi hj
      refine z_withR (fun hR => ?_)
      refine ziload_3_2 dX8_twin_19 ?_
      refine ziload_3_1 dX8_twin_20 ?_
      refine z_icmp_ge (tgt := 44) (by first | omega | exact hR.1 _ _ (by decide) | exact zrng_toInt _) (by first | omega | exact hR.1 _ _ (by decide) | exact zrng_toInt _) dX8_twin_21 (by decide) (fun h21 => ?_) (fun h21 => ?_)
      · omega
      · refine zaload_3_0 dX8_twin_24 ?_
        refine zg_S_51 rfl dX8_twin_25 ?_
        refine ziload_3_2 dX8_twin_28 ?_
        refine ziload_3_1 dX8_twin_29 ?_
        refine zc_S_159 rfl dX8_twin_30 (by decide) (Nat.le_of_ble_eq_true rfl) (sp_Rows_agree M1 (wK B) (B 6 0) Ws (bS B) i n' hrd n12 (by omega) hn') (fun r30 M30 hq30 => ?_)
        refine z_withR (fun hR => ?_)
        have e30 := hq30.1.symm
        subst e30
        have q30 := hq30.2
        rw [← agB_iff] at q30
        refine z_if_eq (tgt := 38) (or_rng q30) dX8_twin_33 (by decide) (fun h33 => ?_) (fun h33 => ?_)
        · have z := or_no q30 h33
          refine ziinc_3_2 dX8_twin_38 ?_
          refine z_goto (tgt := 19) dX8_twin_41 (by decide) ?_
          exact ih (i + 1) (by omega) (fun j hj2 => by
            by_cases e : j = i
            · rw [e]; simpa using z
            · exact hj j (by omega))
        · have z := or_yes q30 h33
          refine ziload_3_2 dX8_twin_36 ?_
          refine z_iret rfl ?_ dX8_twin_37
          exact done _ (by rw [fnd_at hj z (by omega)])
  refine zaload_3_0 dX8_twin_0 ?_
  refine zg_S_42 rfl dX8_twin_1 ?_
  refine ziload_3_1 dX8_twin_4 ?_
  refine zc_S_152 rfl dX8_twin_5 (by decide) (Nat.le_of_ble_eq_true rfl) (sp_Notions_has M n hn) (fun r5 M5 hq5 => ?_)
  refine z_withR (fun hR => ?_)
  have e5 := hq5.1.symm
  subst e5
  have q5 := hq5.2
  rw [n1] at q5
  have q5 := or_if q5
  refine z_if_ne (tgt := 13) (or_rng q5) dX8_twin_8 (by decide) (fun h8 => ?_) (fun h8 => ?_)
  · have y := or_yes q5 h8
    obtain ⟨n', rfl⟩ : ∃ n' : Nat, n = n' := ⟨n.toNat, by omega⟩
    refine zaload_3_0 dX8_twin_13 ?_
    refine zc_S_103 rfl dX8_twin_14 (by decide) (Nat.le_of_ble_eq_true rfl) (sp_S_settle M B h) (fun r14 M14 hq14 => ?_)
    refine z_withR (fun hR => ?_)
    obtain ⟨f14, h0, hO, hs⟩ := hq14
    obtain ⟨⟨_, hcat⟩, _, _, _, _, _, Ws, hrd⟩ := id hs
    have done : ∀ r : Int, r = fnd (fun m => agB B m n') n' → post r M14 := by
      intro r hr
      rw [hpost]
      refine ⟨?_, f14.up (by decide), h0, hO, hs.abK⟩
      unfold fTwin
      rw [if_pos y, Int.toNat_natCast]
      exact hr
    refine z_iconst dX8_twin_17 ?_
    refine zistore_3_2 dX8_twin_18 ?_
    exact lp M14 Ws n' hrd (by omega) done n' 0 (by omega) (fun j h => absurd h (Nat.not_lt_zero _))
  · have y := or_no q5 h8
    refine z_iconst dX8_twin_11 ?_
    refine z_iret rfl ?_ dX8_twin_12
    rw [hpost]
    unfold fTwin
    rw [if_neg y]
    exact ⟨rfl, zfr.rf, h⟩
theorem sp_S_butFor (M : zMem) (B : Nat → Nat → Nat) (a b : Int) (ha : zrng a) (hb : zrng b) (h : abC M B) : zSp zd_S_butFor 6 [zr 0, zi a, zi b] M (fun r M' => cOK M M' B r (fBut B a b)) := by
  refine zSp_in 0 [some (zr 0), some (zi a), some (zi b)] rfl rfl (by decide +kernel) rfl ?_
  refine z_withR (fun hR => ?_)
  have n1 := h.1.2.2.2.1.1
  have n12 := h.1.2.2.2.1.2.1
  have bad : ¬ (inR a (B 6 0) ∧ inR b (B 6 0)) → cOK M M B (-1) (fBut B a b) := by
    intro hn
    unfold fBut
    rw [if_neg hn]
    exact ⟨rfl, zfr.rf, h⟩
  refine zaload_3_0 dX8_butFor_0 ?_
  refine zg_S_42 rfl dX8_butFor_1 ?_
  refine ziload_3_1 dX8_butFor_4 ?_
  refine zc_S_152 rfl dX8_butFor_5 (by decide) (Nat.le_of_ble_eq_true rfl) (sp_Notions_has M a ha) (fun r5 M5 hq5 => ?_)
  refine z_withR (fun hR => ?_)
  have e5 := hq5.1.symm
  subst e5
  have q5 := hq5.2
  rw [n1] at q5
  have q5 := or_if q5
  refine z_if_eq (tgt := 22) (or_rng q5) dX8_butFor_8 (by decide) (fun h8 => ?_) (fun h8 => ?_)
  · have n5 := or_no q5 h8
    refine z_iconst dX8_butFor_22 ?_
    refine z_iret rfl ?_ dX8_butFor_23
    first
      | exact bad (fun z => n5 z.1)
      | exact bad (fun z => n16 z.2)
  · have n5 := or_yes q5 h8
    refine zaload_3_0 dX8_butFor_11 ?_
    refine zg_S_42 rfl dX8_butFor_12 ?_
    refine ziload_3_2 dX8_butFor_15 ?_
    refine zc_S_152 rfl dX8_butFor_16 (by decide) (Nat.le_of_ble_eq_true rfl) (sp_Notions_has M b hb) (fun r16 M16 hq16 => ?_)
    refine z_withR (fun hR => ?_)
    have e16 := hq16.1.symm
    subst e16
    have q16 := hq16.2
    rw [n1] at q16
    have q16 := or_if q16
    refine z_if_ne (tgt := 24) (or_rng q16) dX8_butFor_19 (by decide) (fun h19 => ?_) (fun h19 => ?_)
    · have n16 := or_yes q16 h19
      obtain ⟨a', rfl⟩ : ∃ a' : Nat, a = a' := ⟨a.toNat, by omega⟩
      obtain ⟨b', rfl⟩ : ∃ b' : Nat, b = b' := ⟨b.toNat, by omega⟩
      have hin : inR (a' : Int) (B 6 0) ∧ inR (b' : Int) (B 6 0) := ⟨n5, n16⟩
      refine zaload_3_0 dX8_butFor_24 ?_
      refine zc_S_103 rfl dX8_butFor_25 (by decide) (Nat.le_of_ble_eq_true rfl) (sp_S_settle M B h) (fun r25 M25 hq25 => ?_)
      refine z_withR (fun hR => ?_)
      obtain ⟨f25, h0, hO, hs⟩ := hq25
      obtain ⟨⟨_, hcat⟩, _, _, _, _, _, Ws, hrd⟩ := id hs
      refine zaload_3_0 dX8_butFor_28 ?_
      refine zg_S_51 rfl dX8_butFor_29 ?_
      refine ziload_3_1 dX8_butFor_32 ?_
      refine ziload_3_2 dX8_butFor_33 ?_
      refine zc_S_162 rfl dX8_butFor_34 (by decide) (Nat.le_of_ble_eq_true rfl) (sp_Rows_pairsBeyond M25 (wK B) (B 6 0) Ws (bS B) a' b' hrd n12 (by omega) (by omega)) (fun r34 M34 hq34 => ?_)
      refine z_withR (fun hR => ?_)
      have e34 := hq34.1.symm
      subst e34
      have q34 := hq34.2
      refine z_iret rfl ?_ dX8_butFor_37
      refine ⟨?_, f25.up (by decide), h0, hO, hs.abK⟩
      unfold fBut
      rw [if_pos hin, Int.toNat_natCast, Int.toNat_natCast]
      exact q34
    · have n16 := or_no q16 h19
      refine z_iconst dX8_butFor_22 ?_
      refine z_iret rfl ?_ dX8_butFor_23
      first
        | exact bad (fun z => n5 z.1)
        | exact bad (fun z => n16 z.2)
noncomputable def pLook (B : Nat → Nat → Nat) (F : Nat → Nat → Bool) (i r : Int) : Prop := (∃ w j, w < lS (wK B) ∧ j < lQ (wK B) w ∧ F w j = true ∧ ((lC (wK B) F w + fb_ct (F w) j : Nat) : Int) = i ∧ r = ((lP (wK B) w + j : Nat) : Int)) ∨ (r = -9 ∧ ∀ w j, w < lS (wK B) → j < lQ (wK B) w → F w j = true → ¬ ((lC (wK B) F w + fb_ct (F w) j : Nat) : Int) = i)
theorem pLook_lt {q : Nat → Bool} {F : Nat → Nat → Bool} {w w' j j' : Nat} (hw : w < w') (hj : j < lQ q w) (hF : F w j = true) : lC q F w + fb_ct (F w) j < lC q F w' + fb_ct (F w') j' := by
  have h1 : lC q F w + fb_ct (F w) (lQ q w) ≤ lC q F w' := fb_sm_part (fun w => fb_ct (F w) (lQ q w)) hw
  have h2 : fb_ct (F w) (j + 1) ≤ fb_ct (F w) (lQ q w) := fb_ct_mono _ (by omega)
  rw [fb_ct_succ, if_pos hF] at h2
  omega
theorem pLook_one {B : Nat → Nat → Nat} {F : Nat → Nat → Bool} {i : Int} : ∀ a b, pLook B F i a → pLook B F i b → a = b := by
  intro a b ha hb
  rcases ha with ⟨w, j, h1, h2, h3, h4, h5⟩ | ⟨h1, h2⟩ <;> rcases hb with ⟨w', j', k1, k2, k3, k4, k5⟩ | ⟨k1, k2⟩
  · have e : w = w' := by
      rcases Nat.lt_trichotomy w w' with q | q | q
      · have := pLook_lt (q := wK B) (F := F) (j' := j') q h2 h3; omega
      · exact q
      · have := pLook_lt (q := wK B) (F := F) (j' := j) q k2 k3; omega
    subst e
    have e2 : j = j' := fb_ct_kth_one (p := F w) h3 k3 (by omega)
    rw [h5, k5, e2]
  · exact absurd h4 (k2 w j h1 h2 h3)
  · exact absurd k4 (h2 w' j' k1 k2 k3)
  · rw [h1, k1]
noncomputable def butF (B : Nat → Nat → Nat) (a b w j : Nat) : Bool := bS B (lE (wK B) w) a j && !bS B (lE (wK B) w) b j
noncomputable def fLook (B : Nat → Nat → Nat) (a b i : Int) : Int := if inR a (B 6 0) ∧ inR b (B 6 0) then un (pLook B (butF B a.toNat b.toNat) i) else -1
theorem sp_S_look (M : zMem) (B : Nat → Nat → Nat) (a b i : Int) (ha : zrng a) (hb : zrng b) (hi : zrng i) (h : abC M B) : zSp zd_S_look 6 [zr 0, zi a, zi b, zi i] M (fun r M' => cOK M M' B r (fLook B a b i)) := by
  refine zSp_in 0 [some (zr 0), some (zi a), some (zi b), some (zi i)] rfl rfl (by decide +kernel) rfl ?_
  refine z_withR (fun hR => ?_)
  have n1 := h.1.2.2.2.1.1
  have n12 := h.1.2.2.2.1.2.1
  have bad : ¬ (inR a (B 6 0) ∧ inR b (B 6 0)) → cOK M M B (-1) (fLook B a b i) := by
    intro hn
    unfold fLook
    rw [if_neg hn]
    exact ⟨rfl, zfr.rf, h⟩
  refine zaload_4_0 dX8_look_0 ?_
  refine zg_S_42 rfl dX8_look_1 ?_
  refine ziload_4_1 dX8_look_4 ?_
  refine zc_S_152 rfl dX8_look_5 (by decide) (Nat.le_of_ble_eq_true rfl) (sp_Notions_has M a ha) (fun r5 M5 hq5 => ?_)
  refine z_withR (fun hR => ?_)
  have e5 := hq5.1.symm
  subst e5
  have q5 := hq5.2
  rw [n1] at q5
  have q5 := or_if q5
  refine z_if_eq (tgt := 22) (or_rng q5) dX8_look_8 (by decide) (fun h8 => ?_) (fun h8 => ?_)
  · have n5 := or_no q5 h8
    refine z_iconst dX8_look_22 ?_
    refine z_iret rfl ?_ dX8_look_23
    first
      | exact bad (fun z => n5 z.1)
      | exact bad (fun z => n16 z.2)
  · have n5 := or_yes q5 h8
    refine zaload_4_0 dX8_look_11 ?_
    refine zg_S_42 rfl dX8_look_12 ?_
    refine ziload_4_2 dX8_look_15 ?_
    refine zc_S_152 rfl dX8_look_16 (by decide) (Nat.le_of_ble_eq_true rfl) (sp_Notions_has M b hb) (fun r16 M16 hq16 => ?_)
    refine z_withR (fun hR => ?_)
    have e16 := hq16.1.symm
    subst e16
    have q16 := hq16.2
    rw [n1] at q16
    have q16 := or_if q16
    refine z_if_ne (tgt := 24) (or_rng q16) dX8_look_19 (by decide) (fun h19 => ?_) (fun h19 => ?_)
    · have n16 := or_yes q16 h19
      obtain ⟨a', rfl⟩ : ∃ a' : Nat, a = a' := ⟨a.toNat, by omega⟩
      obtain ⟨b', rfl⟩ : ∃ b' : Nat, b = b' := ⟨b.toNat, by omega⟩
      have hin : inR (a' : Int) (B 6 0) ∧ inR (b' : Int) (B 6 0) := ⟨n5, n16⟩
      refine zaload_4_0 dX8_look_24 ?_
      refine zc_S_103 rfl dX8_look_25 (by decide) (Nat.le_of_ble_eq_true rfl) (sp_S_settle M B h) (fun r25 M25 hq25 => ?_)
      refine z_withR (fun hR => ?_)
      obtain ⟨f25, h0, hO, hs⟩ := hq25
      obtain ⟨⟨_, hcat⟩, _, _, _, _, _, Ws, hrd⟩ := id hs
      refine zaload_4_0 dX8_look_28 ?_
      refine zg_S_51 rfl dX8_look_29 ?_
      refine ziload_4_1 dX8_look_32 ?_
      refine ziload_4_2 dX8_look_33 ?_
      refine ziload_4_3 dX8_look_34 ?_
      refine zc_S_165 rfl dX8_look_35 (by decide) (Nat.le_of_ble_eq_true rfl) (sp_Rows_pairBeyond M25 (wK B) (B 6 0) Ws (bS B) a' b' i hi hrd n12 (by omega) (by omega) (butF B a' b') rfl) (fun r35 M35 hq35 => ?_)
      refine z_withR (fun hR => ?_)
      have e35 := hq35.1.symm
      subst e35
      have q35 := hq35.2
      refine z_iret rfl ?_ dX8_look_38
      refine ⟨?_, f25.up (by decide), h0, hO, hs.abK⟩
      unfold fLook
      rw [if_pos hin, Int.toNat_natCast, Int.toNat_natCast]
      exact un_eq pLook_one q35
    · have n16 := or_no q16 h19
      refine z_iconst dX8_look_22 ?_
      refine z_iret rfl ?_ dX8_look_23
      first
        | exact bad (fun z => n5 z.1)
        | exact bad (fun z => n16 z.2)
noncomputable def cBoth (B : Nat → Nat → Nat) (a b : Nat) : Nat := lC (wK B) (fun w j => bS B (lE (wK B) w) a j && bS B (lE (wK B) w) b j) (lS (wK B))
noncomputable def fNever (B : Nat → Nat → Nat) (a b : Int) : Int := if inR a (B 6 0) ∧ inR b (B 6 0) then (if cBoth B a.toNat b.toNat = 0 then 1 else 0) else -1
theorem cBoth_iff {B : Nat → Nat → Nat} {a b : Nat} : cBoth B a b = 0 ↔ ¬ ∃ w j, w < lS (wK B) ∧ j < lQ (wK B) w ∧ bS B (lE (wK B) w) a j = true ∧ bS B (lE (wK B) w) b j = true := by
  unfold cBoth
  rw [lC_zero]
  constructor
  · intro h ⟨w, j, h1, h2, h3, h4⟩
    have := h w h1 j h2
    simp only [h3, h4] at this
    exact absurd this (by decide)
  · intro h w hw j hj
    refine Bool.eq_false_iff.mpr (fun hz => h ?_)
    simp only [Bool.and_eq_true] at hz
    exact ⟨w, j, hw, hj, hz.1, hz.2⟩
theorem sp_S_never (M : zMem) (B : Nat → Nat → Nat) (a b : Int) (ha : zrng a) (hb : zrng b) (h : abC M B) : zSp zd_S_never 6 [zr 0, zi a, zi b] M (fun r M' => cOK M M' B r (fNever B a b)) := by
  refine zSp_in 0 [some (zr 0), some (zi a), some (zi b)] rfl rfl (by decide +kernel) rfl ?_
  refine z_withR (fun hR => ?_)
  have n1 := h.1.2.2.2.1.1
  have n12 := h.1.2.2.2.1.2.1
  have bad : ¬ (inR a (B 6 0) ∧ inR b (B 6 0)) → cOK M M B (-1) (fNever B a b) := by
    intro hn
    unfold fNever
    rw [if_neg hn]
    exact ⟨rfl, zfr.rf, h⟩
  refine zaload_3_0 dX8_never_0 ?_
  refine zg_S_42 rfl dX8_never_1 ?_
  refine ziload_3_1 dX8_never_4 ?_
  refine zc_S_152 rfl dX8_never_5 (by decide) (Nat.le_of_ble_eq_true rfl) (sp_Notions_has M a ha) (fun r5 M5 hq5 => ?_)
  refine z_withR (fun hR => ?_)
  have e5 := hq5.1.symm
  subst e5
  have q5 := hq5.2
  rw [n1] at q5
  have q5 := or_if q5
  refine z_if_eq (tgt := 22) (or_rng q5) dX8_never_8 (by decide) (fun h8 => ?_) (fun h8 => ?_)
  · have n5 := or_no q5 h8
    refine z_iconst dX8_never_22 ?_
    refine z_iret rfl ?_ dX8_never_23
    first
      | exact bad (fun z => n5 z.1)
      | exact bad (fun z => n16 z.2)
  · have n5 := or_yes q5 h8
    refine zaload_3_0 dX8_never_11 ?_
    refine zg_S_42 rfl dX8_never_12 ?_
    refine ziload_3_2 dX8_never_15 ?_
    refine zc_S_152 rfl dX8_never_16 (by decide) (Nat.le_of_ble_eq_true rfl) (sp_Notions_has M b hb) (fun r16 M16 hq16 => ?_)
    refine z_withR (fun hR => ?_)
    have e16 := hq16.1.symm
    subst e16
    have q16 := hq16.2
    rw [n1] at q16
    have q16 := or_if q16
    refine z_if_ne (tgt := 24) (or_rng q16) dX8_never_19 (by decide) (fun h19 => ?_) (fun h19 => ?_)
    · have n16 := or_yes q16 h19
      obtain ⟨a', rfl⟩ : ∃ a' : Nat, a = a' := ⟨a.toNat, by omega⟩
      obtain ⟨b', rfl⟩ : ∃ b' : Nat, b = b' := ⟨b.toNat, by omega⟩
      have hin : inR (a' : Int) (B 6 0) ∧ inR (b' : Int) (B 6 0) := ⟨n5, n16⟩
      refine zaload_3_0 dX8_never_24 ?_
      refine zc_S_103 rfl dX8_never_25 (by decide) (Nat.le_of_ble_eq_true rfl) (sp_S_settle M B h) (fun r25 M25 hq25 => ?_)
      refine z_withR (fun hR => ?_)
      obtain ⟨f25, h0, hO, hs⟩ := hq25
      obtain ⟨⟨_, hcat⟩, _, _, _, _, _, Ws, hrd⟩ := id hs
      refine zaload_3_0 dX8_never_28 ?_
      refine zg_S_51 rfl dX8_never_29 ?_
      refine ziload_3_1 dX8_never_32 ?_
      refine ziload_3_2 dX8_never_33 ?_
      refine zc_S_168 rfl dX8_never_34 (by decide) (Nat.le_of_ble_eq_true rfl) (sp_Rows_meet M25 (wK B) (B 6 0) Ws (bS B) a' b' hrd n12 (by omega) (by omega)) (fun r34 M34 hq34 => ?_)
      refine z_withR (fun hR => ?_)
      have e34 := hq34.1.symm
      subst e34
      have q34 := hq34.2
      refine z_if_eq (tgt := 44) (or_rng q34) dX8_never_37 (by decide) (fun h37 => ?_) (fun h37 => ?_)
      · have y := or_no q34 h37
        refine z_iconst dX8_never_44 ?_
        refine z_iret rfl ?_ dX8_never_45
        refine ⟨?_, f25.up (by decide), h0, hO, hs.abK⟩
        unfold fNever
        rw [if_pos hin, Int.toNat_natCast, Int.toNat_natCast]
        first
          | rw [if_pos (cBoth_iff.mpr y)]
          | rw [if_neg (fun z => cBoth_iff.mp z y)]
      · have y := or_yes q34 h37
        refine z_iconst dX8_never_40 ?_
        refine z_goto (tgt := 45) dX8_never_41 (by decide) ?_
        refine z_iret rfl ?_ dX8_never_45
        refine ⟨?_, f25.up (by decide), h0, hO, hs.abK⟩
        unfold fNever
        rw [if_pos hin, Int.toNat_natCast, Int.toNat_natCast]
        first
          | rw [if_pos (cBoth_iff.mpr y)]
          | rw [if_neg (fun z => cBoth_iff.mp z y)]
    · have n16 := or_no q16 h19
      refine z_iconst dX8_never_22 ?_
      refine z_iret rfl ?_ dX8_never_23
      first
        | exact bad (fun z => n5 z.1)
        | exact bad (fun z => n16 z.2)
noncomputable def dnB (B : Nat → Nat → Nat) (a b e : Nat) : Bool := wK B e && !(fb_ct (fun j => bS B e a j && !bS B e b j) (eSz e * eSz e) == 0)
theorem dnB_iff {B : Nat → Nat → Nat} {a b e : Nat} : dnB B a b e = true ↔ wK B e = true ∧ ∃ j, j < eSz e * eSz e ∧ bS B e a j = true ∧ bS B e b j = false := by
  unfold dnB
  rw [Bool.and_eq_true]
  refine and_congr_right (fun _ => ?_)
  have h := fb_ct_pos (p := fun j => bS B e a j && !bS B e b j) (n := eSz e * eSz e)
  simp only [Bool.not_eq_true', beq_eq_false_iff_ne, ne_eq]
  rw [show (¬ fb_ct (fun j => bS B e a j && !bS B e b j) (eSz e * eSz e) = 0) ↔ 0 < fb_ct (fun j => bS B e a j && !bS B e b j) (eSz e * eSz e) from by omega, h]
  simp
noncomputable def fDeny (B : Nat → Nat → Nat) (a b : Int) : Int := if inR a (B 6 0) ∧ inR b (B 6 0) then (if fnd (dnB B a.toNat b.toNat) 3341 = -9 then -9 else (eSz (fnd (dnB B a.toNat b.toNat) 3341).toNat : Int) * 100000 + (eK (fnd (dnB B a.toNat b.toNat) 3341).toNat : Int)) else -1
theorem sp_S_deny (M : zMem) (B : Nat → Nat → Nat) (a b : Int) (ha : zrng a) (hb : zrng b) (h : abC M B) : zSp zd_S_deny 6 [zr 0, zi a, zi b] M (fun r M' => cOK M M' B r (fDeny B a b)) := by
  refine zSp_in 1 [some (zr 0), some (zi a), some (zi b), none] rfl rfl (by decide +kernel) rfl ?_
  refine z_withR (fun hR => ?_)
  have hP6 := h.1.2.2.1.2.1
  have hl : 2 ^ B 3 0 - 1 < 256 := Nat.lt_trans (p2_lt hP6) (by decide)
  have n1 := h.1.2.2.2.1.1
  have n12 := h.1.2.2.2.1.2.1
  have bad : ¬ (inR a (B 6 0) ∧ inR b (B 6 0)) → cOK M M B (-1) (fDeny B a b) := by
    intro hn
    unfold fDeny
    rw [if_neg hn]
    exact ⟨rfl, zfr.rf, h⟩
  refine zaload_4_0 dX8_deny_0 ?_
  refine zg_S_42 rfl dX8_deny_1 ?_
  refine ziload_4_1 dX8_deny_4 ?_
  refine zc_S_152 rfl dX8_deny_5 (by decide) (Nat.le_of_ble_eq_true rfl) (sp_Notions_has M a ha) (fun r5 M5 hq5 => ?_)
  refine z_withR (fun hR => ?_)
  have e5 := hq5.1.symm
  subst e5
  have q5 := hq5.2
  rw [n1] at q5
  have q5 := or_if q5
  refine z_if_eq (tgt := 22) (or_rng q5) dX8_deny_8 (by decide) (fun h8 => ?_) (fun h8 => ?_)
  · have n5 := or_no q5 h8
    refine z_iconst dX8_deny_22 ?_
    refine z_iret rfl ?_ dX8_deny_23
    first
      | exact bad (fun z => n5 z.1)
      | exact bad (fun z => n16 z.2)
  · have n5 := or_yes q5 h8
    refine zaload_4_0 dX8_deny_11 ?_
    refine zg_S_42 rfl dX8_deny_12 ?_
    refine ziload_4_2 dX8_deny_15 ?_
    refine zc_S_152 rfl dX8_deny_16 (by decide) (Nat.le_of_ble_eq_true rfl) (sp_Notions_has M b hb) (fun r16 M16 hq16 => ?_)
    refine z_withR (fun hR => ?_)
    have e16 := hq16.1.symm
    subst e16
    have q16 := hq16.2
    rw [n1] at q16
    have q16 := or_if q16
    refine z_if_ne (tgt := 24) (or_rng q16) dX8_deny_19 (by decide) (fun h19 => ?_) (fun h19 => ?_)
    · have n16 := or_yes q16 h19
      obtain ⟨a', rfl⟩ : ∃ a' : Nat, a = a' := ⟨a.toNat, by omega⟩
      obtain ⟨b', rfl⟩ : ∃ b' : Nat, b = b' := ⟨b.toNat, by omega⟩
      have hin : inR (a' : Int) (B 6 0) ∧ inR (b' : Int) (B 6 0) := ⟨n5, n16⟩
      refine zaload_4_0 dX8_deny_24 ?_
      refine zc_S_103 rfl dX8_deny_25 (by decide) (Nat.le_of_ble_eq_true rfl) (sp_S_settle M B h) (fun r25 M25 hq25 => ?_)
      refine z_withR (fun hR => ?_)
      obtain ⟨f25, h0, hO, hs⟩ := hq25
      obtain ⟨⟨_, hcat⟩, _, _, _, _, _, Ws, hrd⟩ := id hs
      obtain ⟨Kf, k1, k2, k3⟩ := hs.kq
      refine zaload_4_0 dX8_deny_28 ?_
      refine zg_S_51 rfl dX8_deny_29 ?_
      refine ziload_4_1 dX8_deny_32 ?_
      refine ziload_4_2 dX8_deny_33 ?_
      refine zaload_4_0 dX8_deny_34 ?_
      refine zg_S_19 rfl dX8_deny_35 ?_
      refine zc_S_106 rfl dX8_deny_38 (by decide) (Nat.le_of_ble_eq_true rfl) (sp_Page_all M25 (B 3 0) hP6 h0.2.2.1.1) (fun r38 M38 hq38 => ?_)
      refine z_withR (fun hR => ?_)
      have e38 := hq38.1.symm
      subst e38
      have q38 := hq38.2
      subst q38
      refine zc_S_171 rfl dX8_deny_41 (by decide) (Nat.le_of_ble_eq_true rfl) (sp_Rows_denier M25 (B 1) (B 2) (B 7) (B 8) (B 9) Ws Kf (B 0 0) (B 6 0) a' b' (2 ^ B 3 0 - 1) hcat h0.1 h0.2.2.2.1 k1 hl hrd.2.1 hrd.2.2.1 (by omega) (by omega)) (fun r41 M41 hq41 => ?_)
      refine z_withR (fun hR => ?_)
      obtain ⟨⟨f41, Ws', m1, m2, m3⟩, q41⟩ := hq41
      have hab : abC M41 B := by
        obtain ⟨s1, s2, s3, s4, s5, ⟨Kf', s6, s7⟩, _⟩ := id hs
        refine ⟨h0.fr f41 (by decide), hO.fr f41 (by decide), stl.abK ⟨?_, ?_, ?_, ?_, ?_, ⟨Kf', s6.fr f41 (by decide), s7⟩, Ws', hrd.ext n12 f41 (by decide) (by decide) (by decide) m1 m2 m3⟩⟩
        · rw [f41 4 (by decide)]; exact ⟨s1.1, s1.2.fr f41 (by decide) (by decide)⟩
        · rw [f41 4 (by decide)]; exact s2.imp id (fun z => ⟨z.1, z.2.fr f41 (by decide)⟩)
        · rw [f41 4 (by decide)]; exact s3
        · rw [f41 6 (by decide)]; exact s4
        · rw [f41 6 (by decide)]; exact s5
      have ff : zfr zCL M M41 := f25.tr f41 (by decide) (by decide)
      have hcat2 := hcat.fr f41 (by decide) (by decide)
      obtain ⟨F0, hF0⟩ : ∃ F0 : Int, F0 = fnd (dnB B a' b') 3341 := ⟨_, rfl⟩
      have r41v : (∃ e : Nat, e < 3341 ∧ r41 = e ∧ F0 = (e : Int)) ∨ (r41 = -9 ∧ F0 = -9) := by
        rcases q41 with ⟨e, z1, z2, z3, z4, z5⟩ | ⟨z1, z2⟩
        · refine Or.inl ⟨e, z1, z2, hF0.trans (fnd_at (fun j hj => ?_) (dnB_iff.mpr ⟨by rw [← k2 e z1]; exact z3, z4⟩) z1)⟩
          refine Bool.eq_false_iff.mpr (fun hd => ?_)
          obtain ⟨d1, d2⟩ := dnB_iff.mp hd
          exact z5 j hj (by rw [k2 j (by omega)]; exact d1) d2
        · refine Or.inr ⟨z1, hF0.trans (fnd_none (fun j hj => ?_))⟩
          refine Bool.eq_false_iff.mpr (fun hd => ?_)
          obtain ⟨d1, d2⟩ := dnB_iff.mp hd
          exact z2 j hj (by rw [k2 j hj]; exact d1) d2
      refine zistore_4_3 dX8_deny_44 ?_
      refine ziload_4_3 dX8_deny_45 ?_
      refine z_bipush dX8_deny_46 (by decide) ?_
      refine z_icmp_ne (tgt := 54) (by rcases r41v with ⟨e, z1, z2, _⟩ | ⟨z, _⟩ <;> unfold zrng <;> omega) (by first | omega | exact hR.1 _ _ (by decide) | exact zrng_toInt _) dX8_deny_48 (by decide) (fun h48 => ?_) (fun h48 => ?_)
      · obtain ⟨e, he, rfl, hfn⟩ := r41v.resolve_right (fun z => h48 z.1)
        have hE3 := (hcat2 e he).1
        have hE4 := eK_lt he
        have hE5 := okn_eSz e
        have hE6 := hE5.le
        refine zaload_4_0 dX8_deny_54 ?_
        refine zg_S_35 rfl dX8_deny_55 ?_
        refine ziload_4_3 dX8_deny_58 ?_
        refine zc_S_174 rfl dX8_deny_59 (by decide) (Nat.le_of_ble_eq_true rfl) (sp_Catalog_sizeOf M41 e he) (fun r59 M59 hq59 => ?_)
        refine z_withR (fun hR => ?_)
        have e59 := hq59.1.symm
        subst e59
        have q59 := hq59.2
        subst q59
        refine zk_S_177 rfl dX8_deny_62 ?_
        refine z_imul dX8_deny_64 ?_
        refine zaload_4_0 dX8_deny_65 ?_
        refine zg_S_35 rfl dX8_deny_66 ?_
        refine zg_S_141 rfl dX8_deny_69 ?_
        refine ziload_4_3 dX8_deny_72 ?_
        refine z_iald _ rfl (by decide) (by decide) rfl (by omega) dX8_deny_73 ?_
        refine z_top hE3 ?_
        refine z_iadd dX8_deny_74 ?_
        refine z_iret rfl ?_ dX8_deny_75
        refine ⟨?_, ff, hab⟩
        unfold fDeny
        rw [if_pos hin, Int.toNat_natCast, Int.toNat_natCast, ← hF0, hfn, if_neg h48, Int.toNat_natCast]
      · have hfn : F0 = -9 := (r41v.resolve_left (fun ⟨e, z1, z2, _⟩ => by omega)).2
        refine z_bipush dX8_deny_51 (by decide) ?_
        refine z_iret rfl ?_ dX8_deny_53
        refine ⟨?_, ff, hab⟩
        unfold fDeny
        rw [if_pos hin, Int.toNat_natCast, Int.toNat_natCast, ← hF0, if_pos hfn]
    · have n16 := or_no q16 h19
      refine z_iconst dX8_deny_22 ?_
      refine z_iret rfl ?_ dX8_deny_23
      first
        | exact bad (fun z => n5 z.1)
        | exact bad (fun z => n16 z.2)
theorem sp_S_yes (M : zMem) (B : Nat → Nat → Nat) (n v x y : Int) (hn : zrng n) (hv : zrng v) (hx : zrng x) (hy : zrng y) (h : abC M B) : zSp zd_S_yes 6 [zr 0, zi n, zi v, zi x, zi y] M (fun r M' => cOK M M' B r (fYes B n v x y)) := by
  refine zSp_in 1 [some (zr 0), some (zi n), some (zi v), some (zi x), some (zi y), none] rfl rfl (by decide +kernel) rfl ?_
  refine z_withR (fun hR => ?_)
  have n1 := h.1.2.2.2.1.1
  have n12 := h.1.2.2.2.1.2.1
  refine zaload_6_0 dX8_yes_0 ?_
  refine zg_S_42 rfl dX8_yes_1 ?_
  refine ziload_6_1 dX8_yes_4 ?_
  refine zc_S_152 rfl dX8_yes_5 (by decide) (Nat.le_of_ble_eq_true rfl) (sp_Notions_has M n hn) (fun r5 M5 hq5 => ?_)
  refine z_withR (fun hR => ?_)
  have e5 := hq5.1.symm
  subst e5
  have q5 := hq5.2
  rw [n1] at q5
  have q5 := or_if q5
  refine z_if_ne (tgt := 13) (or_rng q5) dX8_yes_8 (by decide) (fun h8 => ?_) (fun h8 => ?_)
  · have y5 := or_yes q5 h8
    refine zaload_6_0 dX8_yes_13 ?_
    refine zc_S_103 rfl dX8_yes_14 (by decide) (Nat.le_of_ble_eq_true rfl) (sp_S_settle M B h) (fun r14 M14 hq14 => ?_)
    refine z_withR (fun hR => ?_)
    obtain ⟨f14, h0, hO, hs⟩ := hq14
    obtain ⟨⟨_, hcat⟩, _, _, _, _, _, Ws, hrd⟩ := id hs
    refine zaload_6_0 dX8_yes_17 ?_
    refine zg_S_51 rfl dX8_yes_18 ?_
    refine ziload_6_2 dX8_yes_21 ?_
    refine zc_S_136 rfl dX8_yes_22 (by decide) (Nat.le_of_ble_eq_true rfl) (sp_Rows_has M14 v hv) (fun r22 M22 hq22 => ?_)
    refine z_withR (fun hR => ?_)
    have e22 := hq22.1.symm
    subst e22
    have q22 := hq22.2
    rw [hrd.1.1] at q22
    have q22 := or_if q22
    refine z_if_ne (tgt := 30) (or_rng q22) dX8_yes_25 (by decide) (fun h25 => ?_) (fun h25 => ?_)
    · have y22 := or_yes q22 h25
      obtain ⟨n', rfl⟩ : ∃ n' : Nat, n = n' := ⟨n.toNat, by omega⟩
      obtain ⟨v', rfl⟩ : ∃ v' : Nat, v = v' := ⟨v.toNat, by omega⟩
      have hlen := lS_le (wK B)
      have hE6 := (okn_eSz (lE (wK B) v')).le
      refine zaload_6_0 dX8_yes_30 ?_
      refine zg_S_51 rfl dX8_yes_31 ?_
      refine ziload_6_2 dX8_yes_34 ?_
      refine zc_S_137 rfl dX8_yes_35 (by decide) (Nat.le_of_ble_eq_true rfl) (sp_Rows_sizeAt M14 (wK B) v' hrd.1 (by omega)) (fun r35 M35 hq35 => ?_)
      refine z_withR (fun hR => ?_)
      have e35 := hq35.1.symm
      subst e35
      have q35 := hq35.2
      subst q35
      refine zistore_6_5 dX8_yes_38 ?_
      refine ziload_6_3 dX8_yes_40 ?_
      refine z_if_lt (tgt := 62) (by first | omega | exact hR.1 _ _ (by decide) | exact zrng_toInt _) dX8_yes_41 (by decide) (fun h41 => ?_) (fun h41 => ?_)
      · refine z_bipush dX8_yes_62 (by decide) ?_
        refine z_iret rfl ?_ dX8_yes_64
        unfold fYes
        rw [if_pos ⟨y5, y22⟩, Int.toNat_natCast, Int.toNat_natCast, if_neg (fun z => by omega)]
        exact ⟨rfl, f14.up (by decide), h0, hO, hs.abK⟩
      · refine ziload_6_3 dX8_yes_44 ?_
        refine ziload_6_5 dX8_yes_45 ?_
        refine z_icmp_ge (tgt := 62) (by first | omega | exact hR.1 _ _ (by decide) | exact zrng_toInt _) (by first | omega | exact hR.1 _ _ (by decide) | exact zrng_toInt _) dX8_yes_47 (by decide) (fun h47 => ?_) (fun h47 => ?_)
        · refine z_bipush dX8_yes_62 (by decide) ?_
          refine z_iret rfl ?_ dX8_yes_64
          unfold fYes
          rw [if_pos ⟨y5, y22⟩, Int.toNat_natCast, Int.toNat_natCast, if_neg (fun z => by omega)]
          exact ⟨rfl, f14.up (by decide), h0, hO, hs.abK⟩
        · refine ziload_6_4 dX8_yes_50 ?_
          refine z_if_lt (tgt := 62) (by first | omega | exact hR.1 _ _ (by decide) | exact zrng_toInt _) dX8_yes_52 (by decide) (fun h52 => ?_) (fun h52 => ?_)
          · refine z_bipush dX8_yes_62 (by decide) ?_
            refine z_iret rfl ?_ dX8_yes_64
            unfold fYes
            rw [if_pos ⟨y5, y22⟩, Int.toNat_natCast, Int.toNat_natCast, if_neg (fun z => by omega)]
            exact ⟨rfl, f14.up (by decide), h0, hO, hs.abK⟩
          · refine ziload_6_4 dX8_yes_55 ?_
            refine ziload_6_5 dX8_yes_57 ?_
            refine z_icmp_lt (tgt := 65) (by first | omega | exact hR.1 _ _ (by decide) | exact zrng_toInt _) (by first | omega | exact hR.1 _ _ (by decide) | exact zrng_toInt _) dX8_yes_59 (by decide) (fun h59 => ?_) (fun h59 => ?_)
            · obtain ⟨x', rfl⟩ : ∃ x' : Nat, x = x' := ⟨x.toNat, by omega⟩
              obtain ⟨y', rfl⟩ : ∃ y' : Nat, y = y' := ⟨y.toNat, by omega⟩
              have hxy : inR (x' : Int) (eSz (lE (wK B) v')) ∧ inR (y' : Int) (eSz (lE (wK B) v')) := ⟨⟨by omega, by omega⟩, by omega, by omega⟩
              refine zaload_6_0 dX8_yes_65 ?_
              refine zg_S_51 rfl dX8_yes_66 ?_
              refine ziload_6_1 dX8_yes_69 ?_
              refine ziload_6_2 dX8_yes_70 ?_
              refine zc_S_153 rfl dX8_yes_71 (by decide) (Nat.le_of_ble_eq_true rfl) (sp_Rows_at M14 (wK B) (B 6 0) Ws (bS B) n' v' hrd n12 (by omega) (by omega)) (fun r71 M71 hq71 => ?_)
              refine z_withR (fun hR => ?_)
              have e71 := hq71.1.symm
              subst e71
              have q71 := hq71.2
              subst q71
              have hlQ : lQ (wK B) v' = eSz (lE (wK B) v') * eSz (lE (wK B) v') := rfl
              have hbm := bm_lt (bS B (lE (wK B) v') n') (lQ (wK B) v')
              have hp9 : 2 ^ lQ (wK B) v' ≤ 2 ^ 9 := Nat.pow_le_pow_right (by decide) (lQ_le _ _).1
              have hpl : x' * eSz (lE (wK B) v') + y' < lQ (wK B) v' := by
                rw [hlQ]
                have : x' * eSz (lE (wK B) v') + eSz (lE (wK B) v') ≤ eSz (lE (wK B) v') * eSz (lE (wK B) v') := by
                  rw [← Nat.succ_mul]; exact Nat.mul_le_mul_right _ (by omega)
                omega
              have h9 := (lQ_le (wK B) v').1
              refine ziload_6_3 dX8_yes_74 ?_
              refine ziload_6_5 dX8_yes_75 ?_
              refine z_imul dX8_yes_77 ?_
              refine ziload_6_4 dX8_yes_78 ?_
              refine z_iadd dX8_yes_80 ?_
              rw [show (x' : Int) * (eSz (lE (wK B) v') : Int) + (y' : Int) = ((x' * eSz (lE (wK B) v') + y' : Nat) : Int) by rw [Int.natCast_add, Int.natCast_mul]]
              refine z_ishr dX8_yes_81 ?_
              refine z_iconst dX8_yes_82 ?_
              refine z_iand dX8_yes_83 ?_
              refine z_top (z_bit (by omega) (by omega)) ?_
              refine z_iret rfl ?_ dX8_yes_84
              refine ⟨?_, f14.up (by decide), h0, hO, hs.abK⟩
              unfold fYes
              have hin : inR (n' : Int) (B 6 0) ∧ inR (v' : Int) (lS (wK B)) := ⟨y5, y22⟩
              rw [if_pos hin, Int.toNat_natCast, Int.toNat_natCast, if_pos hxy, Int.toNat_natCast, Int.toNat_natCast, bm_bit]
              simp only [hpl, decide_true, Bool.true_and]
            · refine z_bipush dX8_yes_62 (by decide) ?_
              refine z_iret rfl ?_ dX8_yes_64
              unfold fYes
              rw [if_pos ⟨y5, y22⟩, Int.toNat_natCast, Int.toNat_natCast, if_neg (fun z => by omega)]
              exact ⟨rfl, f14.up (by decide), h0, hO, hs.abK⟩
    · have y22 := or_no q22 h25
      refine z_iconst dX8_yes_28 ?_
      refine z_iret rfl ?_ dX8_yes_29
      unfold fYes
      rw [if_neg (fun z => y22 z.2)]
      exact ⟨rfl, f14.up (by decide), h0, hO, hs.abK⟩
  · have y5 := or_no q5 h8
    refine z_iconst dX8_yes_11 ?_
    refine z_iret rfl ?_ dX8_yes_12
    unfold fYes
    rw [if_neg (fun z => y5 z.1)]
    exact ⟨rfl, zfr.rf, h⟩
