def bKeep (B : Nat → Nat → Nat) (s : Nat) : Nat → Nat → Nat := fun c => if c = 12 then fup (B 12) s (B 3 0) else if c = 13 then (fun i => if 6 * s ≤ i ∧ i < 6 * s + B 3 0 then B 4 (i - 6 * s) else B 13 i) else if c = 14 then (fun i => if 6 * s ≤ i ∧ i < 6 * s + B 3 0 then B 5 (i - 6 * s) else B 14 i) else B c
theorem bKeep_same {B : Nat → Nat → Nat} {s e : Nat} : sK (bKeep B s) s e = wK B e := by
  unfold sK wK
  have e1 : bKeep B s 1 = B 1 := rfl
  have e2 : bKeep B s 2 = B 2 := rfl
  have e12 : bKeep B s 12 s = B 3 0 := fup_s
  have e13 : ∀ l, l < B 3 0 → bKeep B s 13 (6 * s + l) = B 4 l := fun l hl => by
    show (if 6 * s ≤ 6 * s + l ∧ 6 * s + l < 6 * s + B 3 0 then B 4 (6 * s + l - 6 * s) else B 13 (6 * s + l)) = B 4 l
    rw [if_pos (by omega), Nat.add_sub_cancel_left]
  have e14 : ∀ l, l < B 3 0 → bKeep B s 14 (6 * s + l) = B 5 l := fun l hl => by
    show (if 6 * s ≤ 6 * s + l ∧ 6 * s + l < 6 * s + B 3 0 then B 5 (6 * s + l - 6 * s) else B 14 (6 * s + l)) = B 5 l
    rw [if_pos (by omega), Nat.add_sub_cancel_left]
  rw [e12, e1, e2]
  congr 1
  refine propext (forall_congr' (fun l => ?_))
  constructor
  · intro h hl; rw [← e13 l hl, ← e14 l hl]; exact h hl
  · intro h hl; rw [e13 l hl, e14 l hl]; exact h hl
theorem bKeep_other {B : Nat → Nat → Nat} {s s' : Nat} (hne : s' ≠ s) (h6 : B 12 s' ≤ 6) (hP : B 3 0 ≤ 6) : bKeep B s 12 s' = B 12 s' ∧ (∀ l, l < B 12 s' → bKeep B s 13 (6 * s' + l) = B 13 (6 * s' + l) ∧ bKeep B s 14 (6 * s' + l) = B 14 (6 * s' + l)) := by
  refine ⟨fup_n hne, fun l hl => ⟨?_, ?_⟩⟩
  · show (if 6 * s ≤ 6 * s' + l ∧ 6 * s' + l < 6 * s + B 3 0 then B 4 (6 * s' + l - 6 * s) else B 13 (6 * s' + l)) = _
    rw [if_neg (by omega)]
  · show (if 6 * s ≤ 6 * s' + l ∧ 6 * s' + l < 6 * s + B 3 0 then B 5 (6 * s' + l - 6 * s) else B 14 (6 * s' + l)) = _
    rw [if_neg (by omega)]
theorem abC0.keep {M : zMem} {B : Nat → Nat → Nat} {s : Nat} (h : abC0 M B) : abC0 M (bKeep B s) := by
  obtain ⟨h1, h2, h3, h4, h5, h6, h7, h8⟩ := h
  refine ⟨h1, h2, h3, h4, h5, h6, fun s' hs' => ?_, h8⟩
  have b0 : bKeep B s 0 = B 0 := rfl
  rw [b0]
  by_cases e : s' = s
  · subst e
    have e12 : bKeep B s' 12 s' = B 3 0 := fup_s
    rw [e12]
    refine ⟨h3.2.1, fun l hl => ?_⟩
    have e13 : bKeep B s' 13 (6 * s' + l) = B 4 l := by
      show (if 6 * s' ≤ 6 * s' + l ∧ 6 * s' + l < 6 * s' + B 3 0 then B 4 (6 * s' + l - 6 * s') else B 13 (6 * s' + l)) = B 4 l
      rw [if_pos (by omega), Nat.add_sub_cancel_left]
    have e14 : bKeep B s' 14 (6 * s' + l) = B 5 l := by
      show (if 6 * s' ≤ 6 * s' + l ∧ 6 * s' + l < 6 * s' + B 3 0 then B 5 (6 * s' + l - 6 * s') else B 14 (6 * s' + l)) = B 5 l
      rw [if_pos (by omega), Nat.add_sub_cancel_left]
    rw [e13, e14]
    exact (h3.2.2 l hl).2
  · obtain ⟨q1, q2⟩ := bKeep_other (B := B) e (h7 s' hs').1 h3.2.1
    rw [q1]
    refine ⟨(h7 s' hs').1, fun l hl => ?_⟩
    rw [(q2 l hl).1, (q2 l hl).2]
    exact (h7 s' hs').2 l hl
noncomputable def fKeep (B : Nat → Nat → Nat) (s : Int) : Int := if inR s 2 then (B 3 0 : Int) else -1
noncomputable def gKeep (B : Nat → Nat → Nat) (s : Int) : Nat → Nat → Nat := if inR s 2 then bKeep B s.toNat else B
theorem sp_S_keep (M : zMem) (B : Nat → Nat → Nat) (s : Int) (hsr : zrng s) (h : abC M B) : zSp zd_S_keep 6 [zr 0, zi s] M (fun r M' => cOK M M' (gKeep B s) r (fKeep B s)) := by
  refine zSp_in 0 [some (zr 0), some (zi s)] rfl rfl (by decide +kernel) rfl ?_
  refine z_withR (fun hR => ?_)
  have hP6 := h.1.2.2.1.2.1
  have hls := p2_lt hP6
  refine ziload_2_1 dX8_keep_0 ?_
  refine zc_S_204 rfl dX8_keep_1 (by decide) (Nat.le_of_ble_eq_true rfl) (sp_S_isSlot M s hsr) (fun r1 M1 hq1 => ?_)
  refine z_withR (fun hR => ?_)
  have e1 := hq1.1.symm
  subst e1
  have q1 := hq1.2
  have q1 := or_if q1
  refine z_if_ne (tgt := 9) (or_rng q1) dX8_keep_4 (by decide) (fun h4 => ?_) (fun h4 => ?_)
  · have y : inR s 2 := by have := or_yes q1 h4; omega
    obtain ⟨s', rfl⟩ : ∃ s' : Nat, s = s' := ⟨s.toNat, by omega⟩
    refine zaload_2_0 dX8_keep_9 ?_
    refine zc_S_103 rfl dX8_keep_10 (by decide) (Nat.le_of_ble_eq_true rfl) (sp_S_settle M B h) (fun r10 M10 hq10 => ?_)
    refine z_withR (fun hR => ?_)
    obtain ⟨f10, h0, hO, hs⟩ := hq10
    obtain ⟨Kf, k1, k2, k3⟩ := hs.kq
    refine zaload_2_0 dX8_keep_13 ?_
    refine zg_S_35 rfl dX8_keep_14 ?_
    refine ziload_2_1 dX8_keep_17 ?_
    refine zaload_2_0 dX8_keep_18 ?_
    refine zg_S_19 rfl dX8_keep_19 ?_
    refine zc_S_106 rfl dX8_keep_22 (by decide) (Nat.le_of_ble_eq_true rfl) (sp_Page_all M10 (B 3 0) hP6 h0.2.2.1.1) (fun r22 M22 hq22 => ?_)
    refine z_withR (fun hR => ?_)
    have e22 := hq22.1.symm
    subst e22
    have q22 := hq22.2
    subst q22
    refine zc_S_207 rfl dX8_keep_25 (by decide) (Nat.le_of_ble_eq_true rfl) (sp_Catalog_keepPage M10 Kf s' (2 ^ B 3 0 - 1) (by omega) k1 hls) (fun r25 M25 hq25 => ?_)
    refine z_withR (fun hR => ?_)
    obtain ⟨f25, Kf', k1', kb⟩ := hq25
    have hp := (h0.fr f25 (by decide)).2.2.1.1
    refine zaload_2_0 dX8_keep_28 ?_
    refine zg_S_19 rfl dX8_keep_29 ?_
    refine zg_S_96 rfl dX8_keep_32 ?_
    refine z_top hp ?_
    refine z_iret rfl ?_ dX8_keep_35
    unfold fKeep gKeep
    rw [if_pos y, if_pos y, Int.toNat_natCast]
    refine ⟨rfl, f10.tr f25 (by decide) (by decide), (h0.fr f25 (by decide)).keep, hO.fr f25 (by decide), stl.abK ?_⟩
    obtain ⟨s1, s2, s3, s4, s5, _, Ws, r1, r2, r3⟩ := id hs
    refine ⟨?_, ?_, ?_, ?_, ?_, ⟨Kf', k1', fun e he => ⟨fun l hl => ?_, fun t ht => ?_⟩⟩, Ws, r1.fr f25 (by decide) (by decide) (by decide), r2.fr f25 (by decide), r3⟩
    · rw [f25 4 (by decide)]; exact ⟨s1.1, s1.2.fr f25 (by decide) (by decide)⟩
    · rw [f25 4 (by decide)]; exact s2.imp id (fun z => ⟨z.1, z.2.fr f25 (by decide)⟩)
    · rw [f25 4 (by decide)]; exact s3
    · rw [f25 6 (by decide)]; exact s4
    · rw [f25 6 (by decide)]; exact s5
    · have hl2 : l < B 3 0 := hl
      rw [kb e he l, if_neg (by omega)]
      exact (k3 e he).1 l hl
    · rw [kb e he (6 + t)]
      by_cases ez : t = s'
      · rw [if_pos (by omega), ez, bKeep_same]
        exact k2 e he
      · rw [if_neg (by omega), (k3 e he).2 t ht]
        obtain ⟨q1, q2⟩ := bKeep_other (B := B) ez (h0.2.2.2.2.2.2.1 t ht).1 hP6
        unfold sK
        rw [q1]
        congr 1
        refine propext (forall_congr' (fun l => ?_))
        constructor
        · intro z hl; rw [(q2 l hl).1, (q2 l hl).2]; exact z hl
        · intro z hl
          have := z hl
          rw [(q2 l hl).1, (q2 l hl).2] at this
          exact this
  · have y : ¬ inR s 2 := by have := or_no q1 h4; omega
    refine z_iconst dX8_keep_7 ?_
    refine z_iret rfl ?_ dX8_keep_8
    unfold fKeep gKeep
    rw [if_neg y, if_neg y]
    exact ⟨rfl, zfr.rf, h⟩
noncomputable def bG (B : Nat → Nat → Nat) : Nat → Nat := gR (B 1) (B 2) (B 4) (B 5) (B 0 0) (B 3 0) (frN (B 1) (B 2) (B 4) (B 5) (B 0 0) (B 3 0))
noncomputable def bF (B : Nat → Nat → Nat) : Nat := frN (B 1) (B 2) (B 4) (B 5) (B 0 0) (B 3 0)
noncomputable def bRd (B : Nat → Nat → Nat) (a b : Nat) : Int := rnF (B 1) (B 2) (B 4) (B 5) (B 0 0) (B 3 0) (bF B) a b
noncomputable def fShown (B : Nat → Nat → Nat) (a b : Int) : Int := if inR a (B 0 0) ∧ inR b (B 0 0) then bRd B a.toNat b.toNat else -1
theorem sp_S_shown (M : zMem) (B : Nat → Nat → Nat) (a b : Int) (ha : zrng a) (hb : zrng b) (h : abC M B) : zSp zd_S_shown 6 [zr 0, zi a, zi b] M (fun r M' => cOK M M' B r (fShown B a b)) := by
  refine zSp_in 0 [some (zr 0), some (zi a), some (zi b)] rfl rfl (by decide +kernel) rfl ?_
  refine z_withR (fun hR => ?_)
  have t1 := h.1.1.1
  have t20 := h.1.1.2.2.1
  have bad : ¬ (inR a (B 0 0) ∧ inR b (B 0 0)) → cOK M M B (-1) (fShown B a b) := by
    intro hn
    unfold fShown
    rw [if_neg hn]
    exact ⟨rfl, zfr.rf, h⟩
  refine zaload_3_0 dX8_shown_0 ?_
  refine zg_S_10 rfl dX8_shown_1 ?_
  refine ziload_3_1 dX8_shown_4 ?_
  refine zc_S_72 rfl dX8_shown_5 (by decide) (Nat.le_of_ble_eq_true rfl) (sp_Terms_has M a ha) (fun r5 M5 hq5 => ?_)
  refine z_withR (fun hR => ?_)
  have e5 := hq5.1.symm
  subst e5
  have q5 := hq5.2
  rw [t1] at q5
  have q5 := or_if q5
  refine z_if_eq (tgt := 22) (or_rng q5) dX8_shown_8 (by decide) (fun h8 => ?_) (fun h8 => ?_)
  · have n5 := or_no q5 h8
    refine z_iconst dX8_shown_22 ?_
    refine z_iret rfl ?_ dX8_shown_23
    first
      | exact bad (fun z => n5 z.1)
      | exact bad (fun z => n16 z.2)
  · have n5 := or_yes q5 h8
    refine zaload_3_0 dX8_shown_11 ?_
    refine zg_S_10 rfl dX8_shown_12 ?_
    refine ziload_3_2 dX8_shown_15 ?_
    refine zc_S_72 rfl dX8_shown_16 (by decide) (Nat.le_of_ble_eq_true rfl) (sp_Terms_has M b hb) (fun r16 M16 hq16 => ?_)
    refine z_withR (fun hR => ?_)
    have e16 := hq16.1.symm
    subst e16
    have q16 := hq16.2
    rw [t1] at q16
    have q16 := or_if q16
    refine z_if_ne (tgt := 24) (or_rng q16) dX8_shown_19 (by decide) (fun h19 => ?_) (fun h19 => ?_)
    · have n16 := or_yes q16 h19
      obtain ⟨a', rfl⟩ : ∃ a' : Nat, a = a' := ⟨a.toNat, by omega⟩
      obtain ⟨b', rfl⟩ : ∃ b' : Nat, b = b' := ⟨b.toNat, by omega⟩
      have hin : inR (a' : Int) (B 0 0) ∧ inR (b' : Int) (B 0 0) := ⟨n5, n16⟩
      refine zaload_3_0 dX8_shown_24 ?_
      refine zg_S_58 rfl dX8_shown_25 ?_
      refine zaload_3_0 dX8_shown_28 ?_
      refine zg_S_10 rfl dX8_shown_29 ?_
      refine zaload_3_0 dX8_shown_32 ?_
      refine zg_S_19 rfl dX8_shown_33 ?_
      refine zc_S_214 rfl dX8_shown_36 (by decide) (Nat.le_of_ble_eq_true rfl) (sp_Rounds_settle M (B 1) (B 2) (B 4) (B 5) (B 0 0) (B 3 0) h.1.1 h.1.2.1 h.1.2.2.1 h.2.1) (fun r36 M36 hq36 => ?_)
      refine z_withR (fun hR => ?_)
      obtain ⟨f36, k36, r36⟩ := hq36
      refine zaload_3_0 dX8_shown_39 ?_
      refine zg_S_58 rfl dX8_shown_40 ?_
      refine ziload_3_1 dX8_shown_43 ?_
      refine ziload_3_2 dX8_shown_44 ?_
      refine zc_S_217 rfl dX8_shown_45 (by decide) (Nat.le_of_ble_eq_true rfl) (sp_Rounds_roundOf M36 a' b' (by omega) (by omega)) (fun r45 M45 hq45 => ?_)
      refine z_withR (fun hR => ?_)
      have e45 := hq45.1.symm
      subst e45
      have q45 := hq45.2
      refine z_iret rfl ?_ dX8_shown_48
      refine ⟨?_, f36.up (by decide), h.1.fr f36 (by decide), Or.inr ⟨k36, r36⟩, h.2.2.fr f36 (by decide)⟩
      unfold fShown
      rw [if_pos hin, Int.toNat_natCast, Int.toNat_natCast, q45]
      exact r36.2.1 a' b' (by omega) (by omega)
    · have n16 := or_no q16 h19
      refine z_iconst dX8_shown_22 ?_
      refine z_iret rfl ?_ dX8_shown_23
      first
        | exact bad (fun z => n5 z.1)
        | exact bad (fun z => n16 z.2)
theorem sp_S_groups (M : zMem) (B : Nat → Nat → Nat) (h : abC M B) : zSp zd_S_groups 6 [zr 0] M (fun r M' => cOK M M' B r (ngr (bG B) (B 0 0))) := by
  refine zSp_in 0 [some (zr 0)] rfl rfl (by decide +kernel) rfl ?_
  refine z_withR (fun hR => ?_)
  have t20 := h.1.1.2.2.1
  refine zaload_1_0 dX8_groups_0 ?_
  refine zg_S_58 rfl dX8_groups_1 ?_
  refine zaload_1_0 dX8_groups_4 ?_
  refine zg_S_10 rfl dX8_groups_5 ?_
  refine zaload_1_0 dX8_groups_8 ?_
  refine zg_S_19 rfl dX8_groups_9 ?_
  refine zc_S_214 rfl dX8_groups_12 (by decide) (Nat.le_of_ble_eq_true rfl) (sp_Rounds_settle M (B 1) (B 2) (B 4) (B 5) (B 0 0) (B 3 0) h.1.1 h.1.2.1 h.1.2.2.1 h.2.1) (fun r12 M12 hq12 => ?_)
  refine z_withR (fun hR => ?_)
  obtain ⟨f36, k36, r36⟩ := hq12
  have hs := (h.1.fr f36 (by decide)).1.1
  refine zaload_1_0 dX8_groups_15 ?_
  refine zg_S_58 rfl dX8_groups_16 ?_
  refine zaload_1_0 dX8_groups_19 ?_
  refine zg_S_10 rfl dX8_groups_20 ?_
  refine zg_S_220 rfl dX8_groups_23 ?_
  refine z_top hs ?_
  refine zc_S_221 rfl dX8_groups_26 (by decide) (Nat.le_of_ble_eq_true rfl) (sp_Rounds_howManyGroups M12 (B 0 0) (bG B) t20 (fun t ht => ⟨r36.1 t ht, gR_lt t20 ht⟩)) (fun r26 M26 hq26 => ?_)
  refine z_withR (fun hR => ?_)
  have e26 := hq26.1.symm
  subst e26
  have q26 := hq26.2
  refine z_iret rfl ?_ dX8_groups_29
  exact ⟨q26, f36.up (by decide), h.1.fr f36 (by decide), Or.inr ⟨k36, r36⟩, h.2.2.fr f36 (by decide)⟩
noncomputable def fFirst (B : Nat → Nat → Nat) (t : Int) : Int := if inR t (B 0 0) then (bG B t.toNat : Int) else -1
theorem sp_S_first (M : zMem) (B : Nat → Nat → Nat) (t : Int) (ht : zrng t) (h : abC M B) : zSp zd_S_first 6 [zr 0, zi t] M (fun r M' => cOK M M' B r (fFirst B t)) := by
  refine zSp_in 0 [some (zr 0), some (zi t)] rfl rfl (by decide +kernel) rfl ?_
  refine z_withR (fun hR => ?_)
  have t1 := h.1.1.1
  have t20 := h.1.1.2.2.1
  refine zaload_2_0 dX8_first_0 ?_
  refine zg_S_10 rfl dX8_first_1 ?_
  refine ziload_2_1 dX8_first_4 ?_
  refine zc_S_72 rfl dX8_first_5 (by decide) (Nat.le_of_ble_eq_true rfl) (sp_Terms_has M t ht) (fun r5 M5 hq5 => ?_)
  refine z_withR (fun hR => ?_)
  have e5 := hq5.1.symm
  subst e5
  have q5 := hq5.2
  rw [t1] at q5
  have q5 := or_if q5
  refine z_if_ne (tgt := 13) (or_rng q5) dX8_first_8 (by decide) (fun h8 => ?_) (fun h8 => ?_)
  · have n5 := or_yes q5 h8
    obtain ⟨t', rfl⟩ : ∃ t' : Nat, t = t' := ⟨t.toNat, by omega⟩
    refine zaload_2_0 dX8_first_13 ?_
    refine zg_S_58 rfl dX8_first_14 ?_
    refine zaload_2_0 dX8_first_17 ?_
    refine zg_S_10 rfl dX8_first_18 ?_
    refine zaload_2_0 dX8_first_21 ?_
    refine zg_S_19 rfl dX8_first_22 ?_
    refine zc_S_214 rfl dX8_first_25 (by decide) (Nat.le_of_ble_eq_true rfl) (sp_Rounds_settle M (B 1) (B 2) (B 4) (B 5) (B 0 0) (B 3 0) h.1.1 h.1.2.1 h.1.2.2.1 h.2.1) (fun r25 M25 hq25 => ?_)
    refine z_withR (fun hR => ?_)
    obtain ⟨f36, k36, r36⟩ := hq25
    refine zaload_2_0 dX8_first_28 ?_
    refine zg_S_58 rfl dX8_first_29 ?_
    refine zg_S_224 rfl dX8_first_32 ?_
    refine ziload_2_1 dX8_first_35 ?_
    refine z_iald _ rfl (by decide) (by decide) rfl (by omega) dX8_first_36 ?_
    refine z_iret rfl ?_ dX8_first_37
    refine ⟨?_, f36.up (by decide), h.1.fr f36 (by decide), Or.inr ⟨k36, r36⟩, h.2.2.fr f36 (by decide)⟩
    unfold fFirst
    rw [if_pos n5, Int.toNat_natCast]
    exact r36.1 t' (by omega)
  · have n5 := or_no q5 h8
    refine z_iconst dX8_first_11 ?_
    refine z_iret rfl ?_ dX8_first_12
    unfold fFirst
    rw [if_neg n5]
    exact ⟨rfl, zfr.rf, h⟩
noncomputable def fCount (B : Nat → Nat → Nat) (w : Int) : Int := if w = 0 then (B 0 0 : Int) else if w = 1 then (B 3 0 : Int) else if w = 2 then (B 6 0 : Int) else if w = 3 then (fb_ct (bAw B) (B 6 0) : Int) else if w = 4 then (bF B : Int) else -2
theorem sp_S_count (M : zMem) (B : Nat → Nat → Nat) (w : Int) (hw : zrng w) (h : abC M B) : zSp zd_S_count 6 [zr 0, zi w] M (fun r M' => cOK M M' B r (fCount B w)) := by
  refine zSp_in 0 [some (zr 0), some (zi w)] rfl rfl (by decide +kernel) rfl ?_
  refine z_withR (fun hR => ?_)
  have t1 := h.1.1.1
  have p1 := h.1.2.2.1.1
  have n1 := h.1.2.2.2.1.1
  have n12 := h.1.2.2.2.1.2.1
  have haw := h.1.2.2.2.2.1
  have e0 : fCount B w = if w = 0 then (B 0 0 : Int) else if w = 1 then (B 3 0 : Int) else if w = 2 then (B 6 0 : Int) else if w = 3 then (fb_ct (bAw B) (B 6 0) : Int) else if w = 4 then (bF B : Int) else -2 := rfl
  refine ziload_2_1 dX8_count_0 ?_
  rcases (show w = 0 ∨ w = 1 ∨ w = 2 ∨ w = 3 ∨ w = 4 ∨ (w < 0 ∨ 4 < w) from by omega) with h1 | h1 | h1 | h1 | h1 | h1
  · refine z_swIn (tgt := 36) 0 (by first | omega | exact hR.1 _ _ (by decide) | exact zrng_toInt _) (by omega) dX8_count_1 (by decide) rfl (by decide) ?_
    refine zaload_2_0 dX8_count_36 ?_
    refine zg_S_10 rfl dX8_count_37 ?_
    refine zg_S_220 rfl dX8_count_40 ?_
    refine z_iret rfl ?_ dX8_count_43
    rw [e0, if_pos h1]
    exact ⟨t1, zfr.rf, h⟩
  · refine z_swIn (tgt := 44) 1 (by first | omega | exact hR.1 _ _ (by decide) | exact zrng_toInt _) (by omega) dX8_count_1 (by decide) rfl (by decide) ?_
    refine zaload_2_0 dX8_count_44 ?_
    refine zg_S_19 rfl dX8_count_45 ?_
    refine zg_S_96 rfl dX8_count_48 ?_
    refine z_iret rfl ?_ dX8_count_51
    rw [e0, if_neg (by omega), if_pos h1]
    exact ⟨p1, zfr.rf, h⟩
  · refine z_swIn (tgt := 52) 2 (by first | omega | exact hR.1 _ _ (by decide) | exact zrng_toInt _) (by omega) dX8_count_1 (by decide) rfl (by decide) ?_
    refine zaload_2_0 dX8_count_52 ?_
    refine zg_S_42 rfl dX8_count_53 ?_
    refine zg_S_194 rfl dX8_count_56 ?_
    refine z_iret rfl ?_ dX8_count_59
    rw [e0, if_neg (by omega), if_neg (by omega), if_pos h1]
    exact ⟨n1, zfr.rf, h⟩
  · refine z_swIn (tgt := 60) 3 (by first | omega | exact hR.1 _ _ (by decide) | exact zrng_toInt _) (by omega) dX8_count_1 (by decide) rfl (by decide) ?_
    refine zaload_2_0 dX8_count_60 ?_
    refine zg_S_42 rfl dX8_count_61 ?_
    refine zc_S_227 rfl dX8_count_64 (by decide) (Nat.le_of_ble_eq_true rfl) (sp_Notions_howManyAwake M (bAw B) (B 6 0) n12 n1 haw) (fun r64 M64 hq64 => ?_)
    refine z_withR (fun hR => ?_)
    have e64 := hq64.1.symm
    subst e64
    have q64 := hq64.2
    refine z_iret rfl ?_ dX8_count_67
    rw [e0, if_neg (by omega), if_neg (by omega), if_neg (by omega), if_pos h1]
    exact ⟨q64, zfr.rf, h⟩
  · refine z_swIn (tgt := 68) 4 (by first | omega | exact hR.1 _ _ (by decide) | exact zrng_toInt _) (by omega) dX8_count_1 (by decide) rfl (by decide) ?_
    refine zaload_2_0 dX8_count_68 ?_
    refine zg_S_58 rfl dX8_count_69 ?_
    refine zaload_2_0 dX8_count_72 ?_
    refine zg_S_10 rfl dX8_count_73 ?_
    refine zaload_2_0 dX8_count_76 ?_
    refine zg_S_19 rfl dX8_count_77 ?_
    refine zc_S_214 rfl dX8_count_80 (by decide) (Nat.le_of_ble_eq_true rfl) (sp_Rounds_settle M (B 1) (B 2) (B 4) (B 5) (B 0 0) (B 3 0) h.1.1 h.1.2.1 h.1.2.2.1 h.2.1) (fun r80 M80 hq80 => ?_)
    refine z_withR (fun hR => ?_)
    obtain ⟨f36, k36, r36⟩ := hq80
    refine zaload_2_0 dX8_count_83 ?_
    refine zg_S_58 rfl dX8_count_84 ?_
    refine zg_S_230 rfl dX8_count_87 ?_
    refine z_iret rfl ?_ dX8_count_90
    rw [e0, if_neg (by omega), if_neg (by omega), if_neg (by omega), if_neg (by omega), if_pos h1]
    exact ⟨r36.2.2, f36.up (by decide), h.1.fr f36 (by decide), Or.inr ⟨k36, r36⟩, h.2.2.fr f36 (by decide)⟩
  · refine z_swOut (tgt := 91) (by first | omega | exact hR.1 _ _ (by decide) | exact zrng_toInt _) dX8_count_1 (by omega) (by decide) ?_
    refine z_bipush dX8_count_91 (by decide) ?_
    refine z_iret rfl ?_ dX8_count_93
    rw [e0, if_neg (by omega), if_neg (by omega), if_neg (by omega), if_neg (by omega), if_neg (by omega)]
    exact ⟨rfl, zfr.rf, h⟩
