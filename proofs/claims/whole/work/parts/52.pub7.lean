theorem stl.next {M M' : zMem} {B : Nat → Nat → Nat} (h : stl M B) (hf : zfr [6, 30] M M') (h6 : ∀ i, i ≠ 12 → i ≠ 13 → M' 6 i = M 6 i) : stl M' B := by
  obtain ⟨h1, h2, h3, h4, h5, ⟨Kf, k1, k2⟩, Ws, ⟨r1, r2, r3⟩, r5, r6⟩ := h
  refine ⟨?_, ?_, ?_, ?_, ?_, ⟨Kf, k1.fr hf (by decide), k2⟩, Ws, ⟨?_, ?_, ?_⟩, r5.fr hf (by decide), r6⟩
  · rw [hf 4 (by decide)]; exact ⟨h1.1, h1.2.fr hf (by decide) (by decide)⟩
  · rw [hf 4 (by decide)]; exact h2.imp id (fun z => ⟨z.1, z.2.fr hf (by decide)⟩)
  · rw [hf 4 (by decide)]; exact h3
  · rw [h6 _ (by decide) (by decide)]; exact h4
  · rw [h6 _ (by decide) (by decide)]; exact h5
  · rw [h6 _ (by decide) (by decide)]; exact r1
  · rw [h6 _ (by decide) (by decide)]; exact r2
  · rw [hf 27 (by decide), hf 28 (by decide)]; exact r3
noncomputable def fNext (B : Nat → Nat → Nat) : Int := (nxS (wK B) (B 6 0) (bS B) (bAw B) 864).1
theorem nxS_form {q : Nat → Bool} {N : Nat} {S : Nat → Nat → Nat → Bool} {aw : Nat → Bool} : ∀ m, m ≤ 864 → (nxS q N S aw m).1 = -9 ∨ ∃ w a b : Nat, (1 ≤ w ∧ w ≤ 6) ∧ (a < N ∧ a < 12) ∧ (b < N ∧ b < 12) ∧ (nxS q N S aw m).1 = ((10000 * w + 100 * a + b : Nat) : Int) ∧ (w = 2 ∨ b = 0)
  | 0, _ => Or.inl rfl
  | m + 1, hm => by
    have ih := nxS_form (q := q) (N := N) (S := S) (aw := aw) m (by omega)
    rw [nxS]
    split
    · rename_i hmay
      split
      · right
        refine ⟨(144 + m) / 144, (144 + m) / 12 % 12, (144 + m) % 12, ⟨by omega, by omega⟩, ?_, ?_, rfl, ?_⟩
        · unfold mayB at hmay
          rw [Bool.and_eq_true, decide_eq_true_iff] at hmay
          exact ⟨hmay.1, by omega⟩
        · unfold mayB at hmay
          rw [Bool.and_eq_true, Bool.and_eq_true, decide_eq_true_iff] at hmay
          obtain ⟨h1, h2, h3⟩ := hmay
          split at h3
          · rw [Bool.and_eq_true, Bool.and_eq_true, decide_eq_true_iff, decide_eq_true_iff] at h3
            exact ⟨h3.2.1, by omega⟩
          · rw [beq_iff_eq] at h3
            exact ⟨by omega, by omega⟩
        · unfold mayB at hmay
          rw [Bool.and_eq_true, Bool.and_eq_true] at hmay
          obtain ⟨h1, h2, h3⟩ := hmay
          split at h3
          · rename_i z; exact Or.inl z
          · rw [beq_iff_eq] at h3; exact Or.inr h3
      · exact ih
    · exact ih
theorem fNext_form (B : Nat → Nat → Nat) : fNext B = -9 ∨ ∃ w a b : Nat, (1 ≤ w ∧ w ≤ 6) ∧ (a < B 6 0 ∧ a < 12) ∧ (b < B 6 0 ∧ b < 12) ∧ fNext B = ((10000 * w + 100 * a + b : Nat) : Int) ∧ (w = 2 ∨ b = 0) := nxS_form 864 (Nat.le_refl _)
theorem sp_S_next (M : zMem) (B : Nat → Nat → Nat) (h : abC M B) : zSp zd_S_next 6 [zr 0] M (fun r M' => cOK M M' B r (fNext B)) := by
  refine zSp_in 0 [some (zr 0)] rfl rfl (by decide +kernel) rfl ?_
  refine z_withR (fun hR => ?_)
  have n12 := h.1.2.2.2.1.2.1
  refine zaload_1_0 dX8_next_0 ?_
  refine zc_S_103 rfl dX8_next_1 (by decide) (Nat.le_of_ble_eq_true rfl) (sp_S_settle M B h) (fun r1 M1 hq1 => ?_)
  refine z_withR (fun hR => ?_)
  obtain ⟨f1, h0, hO, hs⟩ := hq1
  obtain ⟨⟨_, hcat⟩, _, _, _, _, _, Ws, hrd⟩ := id hs
  refine zaload_1_0 dX8_next_4 ?_
  refine zg_S_51 rfl dX8_next_5 ?_
  refine zc_S_195 rfl dX8_next_8 (by decide) (Nat.le_of_ble_eq_true rfl) (sp_Rows_seekNext M1 (wK B) (B 6 0) Ws (bS B) (bAw B) hrd n12 h0.2.2.2.1.1 h0.2.2.2.2.1) (fun r8 M8 hq8 => ?_)
  refine z_withR (fun hR => ?_)
  obtain ⟨f8, g8, q8⟩ := hq8
  refine z_iret rfl ?_ dX8_next_11
  exact ⟨q8, f1.tr f8 (by decide) (by decide), h0.fr f8 (by decide), hO.fr f8 (by decide), (hs.next f8 g8).abK⟩
noncomputable def fMkN (B : Nat → Nat → Nat) : Int := if fNext B = -9 then -3 else if B 6 0 = 12 then -4 else (B 6 0 : Int)
noncomputable def gMkN (B : Nat → Nat → Nat) : Nat → Nat → Nat := if ¬ fNext B = -9 ∧ ¬ B 6 0 = 12 then bMake B ((fNext B).toNat / 10000) ((fNext B).toNat / 100 % 100) ((fNext B).toNat % 100) else B
theorem sp_S_makeNext (M : zMem) (B : Nat → Nat → Nat) (h : abC M B) : zSp zd_S_makeNext 6 [zr 0] M (fun r M' => cOK M M' (gMkN B) r (fMkN B)) := by
  refine zSp_in 1 [some (zr 0), none] rfl rfl (by decide +kernel) rfl ?_
  refine z_withR (fun hR => ?_)
  have n12 := h.1.2.2.2.1.2.1
  have t20 := h.1.1.2.2.1
  have hfo := fNext_form B
  have e0 : fMkN B = if fNext B = -9 then -3 else if B 6 0 = 12 then -4 else (B 6 0 : Int) := rfl
  have e1 : gMkN B = if ¬ fNext B = -9 ∧ ¬ B 6 0 = 12 then bMake B ((fNext B).toNat / 10000) ((fNext B).toNat / 100 % 100) ((fNext B).toNat % 100) else B := rfl
  have sp8 := fun (M1 : zMem) (Ws : Nat → Nat) (hrd : rdy M1 (wK B) (B 6 0) Ws (bS B)) (h56 : M1 5 6 = B 6 0) (haw : awM M1 (B 6 0) (bAw B)) => sp_Rows_seekNext M1 (wK B) (B 6 0) Ws (bS B) (bAw B) hrd n12 h56 haw
  have eF : (nxS (wK B) (B 6 0) (bS B) (bAw B) 864).1 = fNext B := rfl
  simp only [eF] at sp8
  clear eF
  generalize fNext B = F at hfo e0 e1 sp8
  refine zaload_2_0 dX8_makeNext_0 ?_
  refine zc_S_103 rfl dX8_makeNext_1 (by decide) (Nat.le_of_ble_eq_true rfl) (sp_S_settle M B h) (fun r1 M1 hq1 => ?_)
  refine z_withR (fun hR => ?_)
  obtain ⟨f1, h0, hO, hs⟩ := hq1
  obtain ⟨⟨_, hcat⟩, _, _, _, _, _, Ws, hrd⟩ := id hs
  refine zaload_2_0 dX8_makeNext_4 ?_
  refine zg_S_51 rfl dX8_makeNext_5 ?_
  refine zc_S_195 rfl dX8_makeNext_8 (by decide) (Nat.le_of_ble_eq_true rfl) (sp8 M1 Ws hrd h0.2.2.2.1.1 h0.2.2.2.2.1) (fun r8 M8 hq8 => ?_)
  refine z_withR (fun hR => ?_)
  obtain ⟨f8, g8, q8⟩ := hq8
  have hab : abC M8 B := ⟨h0.fr f8 (by decide), hO.fr f8 (by decide), (hs.next f8 g8).abK⟩
  have ff : zfr zCL M M8 := f1.tr f8 (by decide) (by decide)
  subst q8
  refine zistore_2_1 dX8_makeNext_11 ?_
  refine ziload_2_1 dX8_makeNext_12 ?_
  refine z_bipush dX8_makeNext_13 (by decide) ?_
  refine z_icmp_ne (tgt := 21) (by rcases hfo with z | ⟨w, a, b, z1, z2, z3, z4, _⟩ <;> unfold zrng <;> omega) (by first | omega | exact hR.1 _ _ (by decide) | exact zrng_toInt _) dX8_makeNext_15 (by decide) (fun h15 => ?_) (fun h15 => ?_)
  · obtain ⟨w, a, b, z1, z2, z3, z4, z5⟩ := hfo.resolve_left h15
    subst z4
    have d1 : (10000 * w + 100 * a + b) / 10000 = w := by omega
    have d2 : (10000 * w + 100 * a + b) / 100 % 100 = a := by omega
    have d3 : (10000 * w + 100 * a + b) % 100 = b := by omega
    refine zaload_2_0 dX8_makeNext_21 ?_
    refine zg_S_42 rfl dX8_makeNext_22 ?_
    refine ziload_2_1 dX8_makeNext_25 ?_
    refine z_sipush dX8_makeNext_26 (by decide) ?_
    refine z_idiv (by omega) (by omega) dX8_makeNext_29 ?_
    refine z_top (show _ = (w : Int) by omega) ?_
    refine ziload_2_1 dX8_makeNext_30 ?_
    refine z_bipush dX8_makeNext_31 (by decide) ?_
    refine z_idiv (by omega) (by omega) dX8_makeNext_33 ?_
    refine z_bipush dX8_makeNext_34 (by decide) ?_
    refine z_irem (by omega) (by omega) dX8_makeNext_36 ?_
    refine z_top (show _ = (a : Int) by omega) ?_
    refine ziload_2_1 dX8_makeNext_37 ?_
    refine z_bipush dX8_makeNext_38 (by decide) ?_
    refine z_irem (by omega) (by omega) dX8_makeNext_40 ?_
    refine z_top (show _ = (b : Int) by omega) ?_
    refine zc_S_150 rfl dX8_makeNext_41 (by decide) (Nat.le_of_ble_eq_true rfl) (sp_Notions_add M8 (B 0 0) (B 6 0) (B 7) (B 8) (B 9) w a b hab.1.2.2.2.1 t20 ⟨by omega, fun z => by omega, fun z => ⟨by omega, by omega⟩⟩) (fun r41 M41 hq41 => ?_)
    refine z_withR (fun hR => ?_)
    refine z_iret rfl ?_ dX8_makeNext_44
    rw [e0, e1, if_neg h15, Int.toNat_natCast, d1, d2, d3]
    rcases hq41 with ⟨q1, q2, q3⟩ | ⟨q1, q2, q3, q4, q5⟩
    · rw [if_pos q1, if_neg (fun z => z.2 q1), q3]
      exact ⟨q2, ff, hab⟩
    · rw [if_neg (show ¬ B 6 0 = 12 by omega), if_pos ⟨h15, by omega⟩]
      exact ⟨q2, ff.tr q3 (by decide) (by decide), hab.make q3 q4 q5⟩
  · refine z_bipush dX8_makeNext_18 (by decide) ?_
    refine z_iret rfl ?_ dX8_makeNext_20
    rw [e0, e1, if_pos h15, if_neg (fun z => z.1 h15)]
    exact ⟨rfl, ff, hab⟩
noncomputable def kS (B : Nat → Nat → Nat) (st e : Nat) : Bool := decide (∀ l, l < B 3 0 → st.testBit l = true → kp (B 1) (B 2) (eSz e) (eK e) (B 4 l) (B 5 l) = true)
theorem kfO.set {B : Nat → Nat → Nat} {Kf : Nat → Nat} (h : kfO B (B 3 0) Kf) {e st : Nat} (he : e < 3341) (hs : ∀ l, st.testBit l = true → l < B 3 0) : kq Kf st e = kS B st e := by
  rw [Bool.eq_iff_iff, kq_iff]
  unfold kS
  rw [decide_eq_true_iff]
  constructor
  · intro k l hl hb
    rw [← (h e he).1 l hl]
    exact k l hb
  · intro k i hi
    rw [(h e he).1 i (hs i hi)]
    exact k i (hs i hi) hi
def ndP (B : Nat → Nat → Nat) (l st : Nat) : Prop := ∃ e, e < 3341 ∧ kS B (nAndn st (2 ^ l)) e = true ∧ kS B (2 ^ l) e = false
theorem need_iff {B : Nat → Nat → Nat} {Kf : Nat → Nat} (h : kfO B (B 3 0) Kf) {l st : Nat} (hl : l < B 3 0) (hs : ∀ l, st.testBit l = true → l < B 3 0) {r : Int} (hr : (r = 1 ∧ ∃ e, e < 3341 ∧ kq Kf (nAndn st (2 ^ l)) e = true ∧ kq Kf (2 ^ l) e = false) ∨ (r = 0 ∧ ∀ e, e < 3341 → kq Kf (nAndn st (2 ^ l)) e = true → kq Kf (2 ^ l) e = true)) : (r = 1 ∧ ndP B l st) ∨ (r = 0 ∧ ¬ ndP B l st) := by
  have s1 : ∀ e, e < 3341 → kq Kf (nAndn st (2 ^ l)) e = kS B (nAndn st (2 ^ l)) e := fun e he => h.set he (fun i hi => by
    rw [nAndn_bit, Bool.and_eq_true] at hi
    exact hs i hi.1)
  have s2 : ∀ e, e < 3341 → kq Kf (2 ^ l) e = kS B (2 ^ l) e := fun e he => h.set he (fun i hi => by
    rw [Nat.testBit_two_pow, decide_eq_true_iff] at hi
    omega)
  rcases hr with ⟨r1, e, he, q1, q2⟩ | ⟨r1, q⟩
  · exact Or.inl ⟨r1, e, he, by rw [← s1 e he]; exact q1, by rw [← s2 e he]; exact q2⟩
  · refine Or.inr ⟨r1, fun ⟨e, he, q1, q2⟩ => ?_⟩
    rw [← s1 e he] at q1
    rw [← s2 e he, q e he q1] at q2
    exact absurd q2 (by decide)
theorem all_bit {P l : Nat} (h : (2 ^ P - 1).testBit l = true) : l < P := by
  rw [Nat.testBit_two_pow_sub_one, decide_eq_true_iff] at h
  exact h
noncomputable def fNeed (B : Nat → Nat → Nat) (l : Int) : Int := if inR l (B 3 0) then (@ite _ (ndP B l.toNat (2 ^ B 3 0 - 1)) (Classical.propDecidable _) 1 0) else -1
theorem sp_S_needed (M : zMem) (B : Nat → Nat → Nat) (l : Int) (hl : zrng l) (h : abC M B) : zSp zd_S_needed 6 [zr 0, zi l] M (fun r M' => cOK M M' B r (fNeed B l)) := by
  refine zSp_in 0 [some (zr 0), some (zi l)] rfl rfl (by decide +kernel) rfl ?_
  refine z_withR (fun hR => ?_)
  have hP6 := h.1.2.2.1.2.1
  have hp := h.1.2.2.1.1
  have hls : 2 ^ B 3 0 - 1 < 256 := Nat.lt_trans (p2_lt hP6) (by decide)
  refine ziload_2_1 dX8_needed_0 ?_
  refine z_if_lt (tgt := 15) (by first | omega | exact hR.1 _ _ (by decide) | exact zrng_toInt _) dX8_needed_1 (by decide) (fun h1 => ?_) (fun h1 => ?_)
  · refine z_iconst dX8_needed_15 ?_
    refine z_iret rfl ?_ dX8_needed_16
    unfold fNeed
    rw [if_neg (fun z => by omega)]
    exact ⟨rfl, zfr.rf, h⟩
  · refine ziload_2_1 dX8_needed_4 ?_
    refine zaload_2_0 dX8_needed_5 ?_
    refine zg_S_19 rfl dX8_needed_6 ?_
    refine zg_S_96 rfl dX8_needed_9 ?_
    refine z_top hp ?_
    refine z_icmp_lt (tgt := 17) (by first | omega | exact hR.1 _ _ (by decide) | exact zrng_toInt _) (by first | omega | exact hR.1 _ _ (by decide) | exact zrng_toInt _) dX8_needed_12 (by decide) (fun h12 => ?_) (fun h12 => ?_)
    · obtain ⟨l', rfl⟩ : ∃ l' : Nat, l = l' := ⟨l.toNat, by omega⟩
      have hin : inR (l' : Int) (B 3 0) := ⟨by omega, by omega⟩
      refine zaload_2_0 dX8_needed_17 ?_
      refine zc_S_103 rfl dX8_needed_18 (by decide) (Nat.le_of_ble_eq_true rfl) (sp_S_settle M B h) (fun r18 M18 hq18 => ?_)
      refine z_withR (fun hR => ?_)
      obtain ⟨f18, h0, hO, hs⟩ := hq18
      obtain ⟨Kf, k1, k2, k3⟩ := hs.kq
      refine zaload_2_0 dX8_needed_21 ?_
      refine zg_S_35 rfl dX8_needed_22 ?_
      refine ziload_2_1 dX8_needed_25 ?_
      refine zaload_2_0 dX8_needed_26 ?_
      refine zg_S_19 rfl dX8_needed_27 ?_
      refine zc_S_106 rfl dX8_needed_30 (by decide) (Nat.le_of_ble_eq_true rfl) (sp_Page_all M18 (B 3 0) hP6 h0.2.2.1.1) (fun r30 M30 hq30 => ?_)
      refine z_withR (fun hR => ?_)
      have e30 := hq30.1.symm
      subst e30
      have q30 := hq30.2
      subst q30
      refine zc_S_198 rfl dX8_needed_33 (by decide) (Nat.le_of_ble_eq_true rfl) (sp_Catalog_isNeeded M18 Kf l' (2 ^ B 3 0 - 1) (by omega) k1 hls) (fun r33 M33 hq33 => ?_)
      refine z_withR (fun hR => ?_)
      have e33 := hq33.1.symm
      subst e33
      have q33 := hq33.2
      have q33 := need_iff k3 (by omega) (fun l hl => all_bit hl) q33
      refine z_if_eq (tgt := 43) (or_rng q33) dX8_needed_36 (by decide) (fun h36 => ?_) (fun h36 => ?_)
      · have y := or_no q33 h36
        refine z_iconst dX8_needed_43 ?_
        refine z_iret rfl ?_ dX8_needed_44
        refine ⟨?_, f18.up (by decide), h0, hO, hs.abK⟩
        unfold fNeed
        rw [if_pos hin, Int.toNat_natCast]
        first
          | rw [if_pos y]
          | rw [if_neg y]
      · have y := or_yes q33 h36
        refine z_iconst dX8_needed_39 ?_
        refine z_goto (tgt := 44) dX8_needed_40 (by decide) ?_
        refine z_iret rfl ?_ dX8_needed_44
        refine ⟨?_, f18.up (by decide), h0, hO, hs.abK⟩
        unfold fNeed
        rw [if_pos hin, Int.toNat_natCast]
        first
          | rw [if_pos y]
          | rw [if_neg y]
    · refine z_iconst dX8_needed_15 ?_
      refine z_iret rfl ?_ dX8_needed_16
      unfold fNeed
      rw [if_neg (fun z => by omega)]
      exact ⟨rfl, zfr.rf, h⟩
noncomputable def lsF (B : Nat → Nat → Nat) : Nat → Nat
  | 0 => 2 ^ B 3 0 - 1
  | c + 1 => @ite _ (ndP B (B 3 0 - 1 - c) (lsF B c)) (Classical.propDecidable _) (lsF B c) (nAndn (lsF B c) (2 ^ (B 3 0 - 1 - c)))
theorem lsF_le {B : Nat → Nat → Nat} : ∀ c, lsF B c ≤ 2 ^ B 3 0 - 1 ∧ ∀ l, (lsF B c).testBit l = true → l < B 3 0
  | 0 => ⟨Nat.le_refl _, fun l h => all_bit h⟩
  | c + 1 => by
    have ih := lsF_le (B := B) c
    rw [lsF]
    split
    · exact ih
    · exact ⟨Nat.le_trans (nAndn_le _ _) ih.1, fun l h => by
        rw [nAndn_bit, Bool.and_eq_true] at h
        exact ih.2 l h.1⟩
theorem sp_S_least (M : zMem) (B : Nat → Nat → Nat) (h : abC M B) : zSp zd_S_least 6 [zr 0] M (fun r M' => cOK M M' B r (lsF B (B 3 0) : Nat)) := by
  refine zSp_in 2 [some (zr 0), none, none] rfl rfl (by decide +kernel) rfl ?_
  refine z_withR (fun hR => ?_)
  have hP6 := h.1.2.2.1.2.1
  have hls := p2_lt hP6
  obtain ⟨post, hpost⟩ : ∃ post : Int → zMem → Prop, post = (fun (r : Int) M' => cOK M M' B r (lsF B (B 3 0) : Nat)) := ⟨_, rfl⟩
  rw [← hpost]
  have lp : ∀ (M1 : zMem) (Kf : Nat → Nat), kepF M1 Kf → kfO B (B 3 0) Kf → (∀ r : Int, r = (lsF B (B 3 0) : Nat) → post r M1) → ∀ (d c : Nat), c + d = B 3 0 → zV zd_S_least 6 22 [some (zr 0), some (zi (lsF B c : Nat)), some (zi ((d : Int) - 1))] [] M1 post := by
    intro M1 Kf k1 k3 done d
    induction d with
    | zero =>
      intro c hc
      refine z_withR (fun hR => ?_)
      refine ziload_3_2 dX8_least_22 ?_
      refine z_if_lt (tgt := 52) (by first | omega | exact hR.1 _ _ (by decide) | exact zrng_toInt _) dX8_least_23 (by decide) (fun h23 => ?_) (fun h23 => ?_)
      · refine ziload_3_1 dX8_least_52 ?_
        refine z_iret rfl ?_ dX8_least_53
        exact done _ (by rw [show c = B 3 0 by omega])
      · omega
    | succ d ih =>
      intro c hc
      have hle := lsF_le (B := B) c
      have hst : lsF B (c + 1) = @ite _ (ndP B (B 3 0 - 1 - c) (lsF B c)) (Classical.propDecidable _) (lsF B c) (nAndn (lsF B c) (2 ^ (B 3 0 - 1 - c))) := rfl
      have ed : B 3 0 - 1 - c = d := by omega
      rw [ed] at hst
      have k := ih (c + 1) (by omega)
      have pw : 2 ^ d < 2 ^ 6 := Nat.pow_lt_pow_right (by decide) (by omega)
      rw [show (((d + 1 : Nat) : Int) - 1) = (d : Int) by omega]
      refine z_withR (fun hR => ?_)
      refine ziload_3_2 dX8_least_22 ?_
      refine z_if_lt (tgt := 52) (by first | omega | exact hR.1 _ _ (by decide) | exact zrng_toInt _) dX8_least_23 (by decide) (fun h23 => ?_) (fun h23 => ?_)
      · omega
      · refine zaload_3_0 dX8_least_26 ?_
        refine zg_S_35 rfl dX8_least_27 ?_
        refine ziload_3_2 dX8_least_30 ?_
        refine ziload_3_1 dX8_least_31 ?_
        refine zc_S_198 rfl dX8_least_32 (by decide) (Nat.le_of_ble_eq_true rfl) (sp_Catalog_isNeeded M1 Kf d (lsF B c) (by omega) k1 (by omega)) (fun r32 M32 hq32 => ?_)
        refine z_withR (fun hR => ?_)
        have e32 := hq32.1.symm
        subst e32
        have q32 := hq32.2
        have q32 := need_iff k3 (by omega) hle.2 q32
        refine z_if_ne (tgt := 46) (or_rng q32) dX8_least_35 (by decide) (fun h35 => ?_) (fun h35 => ?_)
        · have y := or_yes q32 h35
          rw [hst, if_pos y] at k
          refine ziinc_3_2 dX8_least_46 ?_
          rw [show (d : Int) + -1 = (d : Int) - 1 by omega]
          refine z_goto (tgt := 22) dX8_least_49 (by decide) ?_
          exact k
        · have y := or_no q32 h35
          rw [hst, if_neg y] at k
          refine ziload_3_1 dX8_least_38 ?_
          refine z_iconst dX8_least_39 ?_
          refine ziload_3_2 dX8_least_40 ?_
          refine z_ishl dX8_least_41 ?_
          refine z_top (zShl_one (by omega)) ?_
          refine z_iconst dX8_least_42 ?_
          refine z_ixor dX8_least_43 ?_
          refine z_iand dX8_least_44 ?_
          refine z_top (zAndn (by omega)) ?_
          refine zistore_3_1 dX8_least_45 ?_
          refine ziinc_3_2 dX8_least_46 ?_
          rw [show (d : Int) + -1 = (d : Int) - 1 by omega]
          refine z_goto (tgt := 22) dX8_least_49 (by decide) ?_
          exact k
  refine zaload_3_0 dX8_least_0 ?_
  refine zc_S_103 rfl dX8_least_1 (by decide) (Nat.le_of_ble_eq_true rfl) (sp_S_settle M B h) (fun r1 M1 hq1 => ?_)
  refine z_withR (fun hR => ?_)
  obtain ⟨f1, h0, hO, hs⟩ := hq1
  obtain ⟨Kf, k1, k2, k3⟩ := hs.kq
  have hp := h0.2.2.1.1
  refine zaload_3_0 dX8_least_4 ?_
  refine zg_S_19 rfl dX8_least_5 ?_
  refine zc_S_106 rfl dX8_least_8 (by decide) (Nat.le_of_ble_eq_true rfl) (sp_Page_all M1 (B 3 0) hP6 h0.2.2.1.1) (fun r8 M8 hq8 => ?_)
  refine z_withR (fun hR => ?_)
  have e8 := hq8.1.symm
  subst e8
  have q8 := hq8.2
  subst q8
  refine zistore_3_1 dX8_least_11 ?_
  refine zaload_3_0 dX8_least_12 ?_
  refine zg_S_19 rfl dX8_least_13 ?_
  refine zg_S_96 rfl dX8_least_16 ?_
  refine z_top hp ?_
  refine z_iconst dX8_least_19 ?_
  refine z_isub dX8_least_20 ?_
  refine zistore_3_2 dX8_least_21 ?_
  exact lp M1 Kf k1 k3 (fun r hr => by rw [hpost]; exact ⟨hr, f1.up (by decide), h0, hO, hs.abK⟩) (B 3 0) 0 (by omega)
theorem kq_all {B : Nat → Nat → Nat} {Kf : Nat → Nat} (k2 : ∀ e, e < 3341 → kq Kf (2 ^ B 3 0 - 1) e = wK B e) {e : Nat} (he : e < 3341) : kq Kf (2 ^ B 3 0 - 1) e = wK B e ∧ kq Kf (2 ^ B 3 0 - 1) (tn e) = wK B (tn e) := ⟨k2 e he, k2 _ (tn_ok (e := e)).1⟩
theorem stl.turn {M M' : zMem} {B : Nat → Nat → Nat} (h : stl M B) (hf : zfr [3, 4, 15, 19] M M') (ht : trnF M' ∧ M' 4 5 = 1 ∨ trnF M' = trnF M ∧ M' 4 5 = M 4 5) (h4 : ∀ i, i ≠ 5 → M' 4 i = M 4 i) : stl M' B := by
  obtain ⟨h1, h2, h3, h5, h6, ⟨Kf, k1, k2⟩, Ws, r1, r2, r3⟩ := h
  refine ⟨?_, ?_, ?_, ?_, ?_, ⟨Kf, k1.fr hf (by decide), k2⟩, Ws, r1.fr hf (by decide) (by decide) (by decide), r2.fr hf (by decide), r3⟩
  · rw [h4 _ (by decide)]; exact ⟨h1.1, h1.2.fr hf (by decide) (by decide)⟩
  · rcases ht with ⟨q1, q2⟩ | ⟨q1, q2⟩
    · exact Or.inr ⟨q2, q1⟩
    · rw [q1, q2]; exact h2
  · rw [h4 _ (by decide)]; exact h3
  · rw [hf 6 (by decide)]; exact h5
  · rw [hf 6 (by decide)]; exact h6
noncomputable def fEven (B : Nat → Nat → Nat) : Int := @ite _ (∀ e, e < 3341 → wK B e = true → wK B (tn e) = true) (Classical.propDecidable _) 1 0
theorem sp_S_even (M : zMem) (B : Nat → Nat → Nat) (h : abC M B) : zSp zd_S_even 6 [zr 0] M (fun r M' => cOK M M' B r (fEven B)) := by
  refine zSp_in 0 [some (zr 0)] rfl rfl (by decide +kernel) rfl ?_
  refine z_withR (fun hR => ?_)
  have hP6 := h.1.2.2.1.2.1
  have hls : 2 ^ B 3 0 - 1 < 256 := Nat.lt_trans (p2_lt hP6) (by decide)
  refine zaload_1_0 dX8_even_0 ?_
  refine zc_S_103 rfl dX8_even_1 (by decide) (Nat.le_of_ble_eq_true rfl) (sp_S_settle M B h) (fun r1 M1 hq1 => ?_)
  refine z_withR (fun hR => ?_)
  obtain ⟨f1, h0, hO, hs⟩ := hq1
  obtain ⟨Kf, k1, k2, k3⟩ := hs.kq
  refine zaload_1_0 dX8_even_4 ?_
  refine zg_S_35 rfl dX8_even_5 ?_
  refine zaload_1_0 dX8_even_8 ?_
  refine zg_S_19 rfl dX8_even_9 ?_
  refine zc_S_106 rfl dX8_even_12 (by decide) (Nat.le_of_ble_eq_true rfl) (sp_Page_all M1 (B 3 0) hP6 h0.2.2.1.1) (fun r12 M12 hq12 => ?_)
  refine z_withR (fun hR => ?_)
  have e12 := hq12.1.symm
  subst e12
  have q12 := hq12.2
  subst q12
  refine zc_S_201 rfl dX8_even_15 (by decide) (Nat.le_of_ble_eq_true rfl) (sp_Catalog_isEven M1 Kf (2 ^ B 3 0 - 1) hs.1.2 k1 hls hs.2.1) (fun r15 M15 hq15 => ?_)
  refine z_withR (fun hR => ?_)
  obtain ⟨⟨f15, t15, u15, v15⟩, q15⟩ := hq15
  have hs2 := hs.turn f15 (Or.inl ⟨t15, u15⟩) v15
  have q : (r15 = 1 ∧ ∀ e, e < 3341 → wK B e = true → wK B (tn e) = true) ∨ (r15 = 0 ∧ ¬ ∀ e, e < 3341 → wK B e = true → wK B (tn e) = true) := by
    rcases q15 with ⟨a1, a2⟩ | ⟨a1, e, he, a2, a3⟩
    · exact Or.inl ⟨a1, fun e he z => by rw [← (kq_all k2 he).2]; exact a2 e he (by rw [(kq_all k2 he).1]; exact z)⟩
    · refine Or.inr ⟨a1, fun z => ?_⟩
      rw [(kq_all k2 he).1] at a2
      rw [(kq_all k2 he).2, z e he a2] at a3
      exact absurd a3 (by decide)
  refine z_if_eq (tgt := 25) (or_rng q) dX8_even_18 (by decide) (fun h18 => ?_) (fun h18 => ?_)
  · have y := or_no q h18
    refine z_iconst dX8_even_25 ?_
    refine z_iret rfl ?_ dX8_even_26
    refine ⟨?_, f1.tr f15 (by decide) (by decide), h0.fr f15 (by decide), hO.fr f15 (by decide), hs2.abK⟩
    unfold fEven
    first
      | rw [if_pos y]
      | rw [if_neg y]
  · have y := or_yes q h18
    refine z_iconst dX8_even_21 ?_
    refine z_goto (tgt := 26) dX8_even_22 (by decide) ?_
    refine z_iret rfl ?_ dX8_even_26
    refine ⟨?_, f1.tr f15 (by decide) (by decide), h0.fr f15 (by decide), hO.fr f15 (by decide), hs2.abK⟩
    unfold fEven
    first
      | rw [if_pos y]
      | rw [if_neg y]
noncomputable def fSame (B : Nat → Nat → Nat) (s : Int) : Int := if inR s 2 then (@ite _ (∀ e, e < 3341 → wK B e = sK B s.toNat e) (Classical.propDecidable _) 1 (@ite _ (∀ e, e < 3341 → wK B e = sK B s.toNat (tn e)) (Classical.propDecidable _) 2 0)) else -1
theorem page_iff {B : Nat → Nat → Nat} {Kf : Nat → Nat} (k2 : ∀ e, e < 3341 → kq Kf (2 ^ B 3 0 - 1) e = wK B e) (k3 : kfO B (B 3 0) Kf) {s : Nat} (hs : s < 2) {o : Bool} {r : Int} (hr : (r = 1 ∧ ∀ e, e < 3341 → kq Kf (2 ^ B 3 0 - 1) e = kq Kf (2 ^ (6 + s)) (if o then tn e else e)) ∨ (r = 0 ∧ ∃ e, e < 3341 ∧ ¬ kq Kf (2 ^ B 3 0 - 1) e = kq Kf (2 ^ (6 + s)) (if o then tn e else e))) : (r = 1 ∧ ∀ e, e < 3341 → wK B e = sK B s (if o then tn e else e)) ∨ (r = 0 ∧ ¬ ∀ e, e < 3341 → wK B e = sK B s (if o then tn e else e)) := by
  have hk : ∀ e, e < 3341 → kq Kf (2 ^ (6 + s)) (if o then tn e else e) = sK B s (if o then tn e else e) := by
    intro e he
    refine k3.slot ?_ hs
    cases o
    · exact he
    · exact (tn_ok (e := e)).1
  rcases hr with ⟨a1, a2⟩ | ⟨a1, e, he, a2⟩
  · exact Or.inl ⟨a1, fun e he => by rw [← k2 e he, ← hk e he]; exact a2 e he⟩
  · exact Or.inr ⟨a1, fun z => a2 (by rw [k2 e he, hk e he]; exact z e he)⟩
theorem sp_S_same (M : zMem) (B : Nat → Nat → Nat) (s : Int) (hsr : zrng s) (h : abC M B) : zSp zd_S_same 6 [zr 0, zi s] M (fun r M' => cOK M M' B r (fSame B s)) := by
  refine zSp_in 0 [some (zr 0), some (zi s)] rfl rfl (by decide +kernel) rfl ?_
  refine z_withR (fun hR => ?_)
  have hP6 := h.1.2.2.1.2.1
  have hls : 2 ^ B 3 0 - 1 < 256 := Nat.lt_trans (p2_lt hP6) (by decide)
  refine ziload_2_1 dX8_same_0 ?_
  refine zc_S_204 rfl dX8_same_1 (by decide) (Nat.le_of_ble_eq_true rfl) (sp_S_isSlot M s hsr) (fun r1 M1 hq1 => ?_)
  refine z_withR (fun hR => ?_)
  have e1 := hq1.1.symm
  subst e1
  have q1 := hq1.2
  have q1 := or_if q1
  refine z_if_ne (tgt := 9) (or_rng q1) dX8_same_4 (by decide) (fun h4 => ?_) (fun h4 => ?_)
  · have y : inR s 2 := by have := or_yes q1 h4; omega
    obtain ⟨s', rfl⟩ : ∃ s' : Nat, s = s' := ⟨s.toNat, by omega⟩
    refine zaload_2_0 dX8_same_9 ?_
    refine zc_S_103 rfl dX8_same_10 (by decide) (Nat.le_of_ble_eq_true rfl) (sp_S_settle M B h) (fun r10 M10 hq10 => ?_)
    refine z_withR (fun hR => ?_)
    obtain ⟨f10, h0, hO, hs⟩ := hq10
    obtain ⟨Kf, k1, k2, k3⟩ := hs.kq
    refine zaload_2_0 dX8_same_13 ?_
    refine zg_S_35 rfl dX8_same_14 ?_
    refine ziload_2_1 dX8_same_17 ?_
    refine zaload_2_0 dX8_same_18 ?_
    refine zg_S_19 rfl dX8_same_19 ?_
    refine zc_S_106 rfl dX8_same_22 (by decide) (Nat.le_of_ble_eq_true rfl) (sp_Page_all M10 (B 3 0) hP6 h0.2.2.1.1) (fun r22 M22 hq22 => ?_)
    refine z_withR (fun hR => ?_)
    have e22 := hq22.1.symm
    subst e22
    have q22 := hq22.2
    subst q22
    refine z_iconst dX8_same_25 ?_
    refine zc_S_210 rfl dX8_same_26 (by decide) (Nat.le_of_ble_eq_true rfl) (sp_Catalog_isPageOf M10 Kf s' (2 ^ B 3 0 - 1) false (by omega) hs.1.2 k1 hls hs.2.1) (fun r26 M26 hq26 => ?_)
    refine z_withR (fun hR => ?_)
    obtain ⟨⟨f26, t26, v26⟩, q26⟩ := hq26
    have hs2 := hs.turn f26 t26 v26
    have q26 : (r26 = 1 ∧ ∀ e, e < 3341 → wK B e = sK B s' e) ∨ (r26 = 0 ∧ ¬ ∀ e, e < 3341 → wK B e = sK B s' e) := page_iff k2 k3 (by omega) q26
    have h02 := h0.fr f26 (by decide)
    have hO2 := hO.fr f26 (by decide)
    have ff : zfr zCL M M26 := f10.tr f26 (by decide) (by decide)
    obtain ⟨Kf', k1', k2', k3'⟩ := hs2.kq
    refine z_if_eq (tgt := 34) (or_rng q26) dX8_same_29 (by decide) (fun h29 => ?_) (fun h29 => ?_)
    · have y26 := or_no q26 h29
      refine zaload_2_0 dX8_same_34 ?_
      refine zg_S_35 rfl dX8_same_35 ?_
      refine ziload_2_1 dX8_same_38 ?_
      refine zaload_2_0 dX8_same_39 ?_
      refine zg_S_19 rfl dX8_same_40 ?_
      refine zc_S_106 rfl dX8_same_43 (by decide) (Nat.le_of_ble_eq_true rfl) (sp_Page_all M26 (B 3 0) hP6 h02.2.2.1.1) (fun r43 M43 hq43 => ?_)
      refine z_withR (fun hR => ?_)
      have e43 := hq43.1.symm
      subst e43
      have q43 := hq43.2
      subst q43
      refine z_iconst dX8_same_46 ?_
      refine zc_S_210 rfl dX8_same_47 (by decide) (Nat.le_of_ble_eq_true rfl) (sp_Catalog_isPageOf M26 Kf' s' (2 ^ B 3 0 - 1) true (by omega) hs2.1.2 k1' hls hs2.2.1) (fun r47 M47 hq47 => ?_)
      refine z_withR (fun hR => ?_)
      obtain ⟨⟨f47, t47, v47⟩, q47⟩ := hq47
      have hs3 := hs2.turn f47 t47 v47
      have q47 : (r47 = 1 ∧ ∀ e, e < 3341 → wK B e = sK B s' (tn e)) ∨ (r47 = 0 ∧ ¬ ∀ e, e < 3341 → wK B e = sK B s' (tn e)) := page_iff k2' k3' (by omega) q47
      refine z_if_eq (tgt := 57) (or_rng q47) dX8_same_50 (by decide) (fun h50 => ?_) (fun h50 => ?_)
      · have y47 := or_no q47 h50
        refine z_iconst dX8_same_57 ?_
        refine z_iret rfl ?_ dX8_same_58
        refine ⟨?_, ff.tr f47 (by decide) (by decide), h02.fr f47 (by decide), hO2.fr f47 (by decide), hs3.abK⟩
        unfold fSame
        rw [if_pos y, Int.toNat_natCast, if_neg y26]
        first
          | rw [if_pos y47]
          | rw [if_neg y47]
      · have y47 := or_yes q47 h50
        refine z_iconst dX8_same_53 ?_
        refine z_goto (tgt := 58) dX8_same_54 (by decide) ?_
        refine z_iret rfl ?_ dX8_same_58
        refine ⟨?_, ff.tr f47 (by decide) (by decide), h02.fr f47 (by decide), hO2.fr f47 (by decide), hs3.abK⟩
        unfold fSame
        rw [if_pos y, Int.toNat_natCast, if_neg y26]
        first
          | rw [if_pos y47]
          | rw [if_neg y47]
    · have y26 := or_yes q26 h29
      refine z_iconst dX8_same_32 ?_
      refine z_iret rfl ?_ dX8_same_33
      refine ⟨?_, ff, h02, hO2, hs2.abK⟩
      unfold fSame
      rw [if_pos y, Int.toNat_natCast, if_pos y26]
  · have y : ¬ inR s 2 := by have := or_no q1 h4; omega
    refine z_iconst dX8_same_7 ?_
    refine z_iret rfl ?_ dX8_same_8
    unfold fSame
    rw [if_neg y]
    exact ⟨rfl, zfr.rf, h⟩
