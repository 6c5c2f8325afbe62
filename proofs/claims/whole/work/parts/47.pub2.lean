theorem or_if {r : Int} {p : Prop} [Decidable p] (h : r = if p then 1 else 0) : (r = 1 ∧ p) ∨ (r = 0 ∧ ¬ p) := by
  by_cases hp : p
  · rw [if_pos hp] at h; exact Or.inl ⟨h, hp⟩
  · rw [if_neg hp] at h; exact Or.inr ⟨h, hp⟩
theorem or_yes {r : Int} {p : Prop} (h : (r = 1 ∧ p) ∨ (r = 0 ∧ ¬ p)) (h0 : ¬ r = 0) : p := (h.resolve_right (fun q => h0 q.1)).2
theorem or_no {r : Int} {p : Prop} (h : (r = 1 ∧ p) ∨ (r = 0 ∧ ¬ p)) (h0 : r = 0) : ¬ p := (h.resolve_left (fun q => by rw [h0] at q; exact absurd q.1 (by decide))).2
theorem or_rng {r : Int} {p : Prop} (h : (r = 1 ∧ p) ∨ (r = 0 ∧ ¬ p)) : zrng r := by
  rcases h with ⟨h, _⟩ | ⟨h, _⟩ <;> rw [h] <;> decide
/-- the answer and the store behind a call -/
def cOK (M M' : zMem) (B : Nat → Nat → Nat) (r f : Int) : Prop := r = f ∧ zfr zCL M M' ∧ abC M' B
def fPut (B : Nat → Nat → Nat) (a b : Int) : Int := if inR a (B 0 0) ∧ inR b (B 0 0) then (match jd (B 1) (B 2) (B 0 0) a.toNat b.toNat with | some t => (t : Int) | none => if B 0 0 = 20 then -4 else (B 0 0 : Int)) else -1
def gPut (B : Nat → Nat → Nat) (a b : Int) : Nat → Nat → Nat := if (inR a (B 0 0) ∧ inR b (B 0 0)) ∧ jd (B 1) (B 2) (B 0 0) a.toNat b.toNat = none ∧ ¬ B 0 0 = 20 then bPut B a.toNat b.toNat else B
theorem jd_none {L R : Nat → Nat} {T a b : Nat} : jd L R T a b = none ↔ ∀ t, 3 ≤ t → t < T → ¬ (L t = a ∧ R t = b) := by
  unfold jd
  rw [List.find?_eq_none]
  constructor
  · intro h t h3 ht ⟨e1, e2⟩
    exact h t (List.mem_range.mpr ht) (by simp [h3, e1, e2])
  · intro h t ht
    have := h t
    have h5 := List.mem_range.mp ht
    simp only [Bool.and_eq_true, decide_eq_true_eq, beq_iff_eq]
    intro ⟨h1, h2⟩
    exact this h1 h5 h2
theorem sp_S_put (M : zMem) (B : Nat → Nat → Nat) (a b : Int) (ha : zrng a) (hb : zrng b) (h : abC M B) : zSp zd_S_put 2 [zr 0, zi a, zi b] M (fun r M' => cOK M M' (gPut B a b) r (fPut B a b)) := by
  refine zSp_in 2 [some (zr 0), some (zi a), some (zi b), none, none] rfl rfl (by decide +kernel) rfl ?_
  refine z_withR (fun hR => ?_)
  obtain ⟨t1, t2, t3, t4, t5, t6⟩ := id h.1.1
  have hu := h.1.2.1
  have bad : ¬ (inR a (B 0 0) ∧ inR b (B 0 0)) → cOK M M (gPut B a b) (-1) (fPut B a b) := by
    intro hn
    unfold fPut gPut
    rw [if_neg hn, if_neg (fun q => hn q.1)]
    exact ⟨rfl, zfr.rf, h⟩
  refine zaload_5_0 dX8_put_0 ?_
  refine zg_S_10 rfl dX8_put_1 ?_
  refine ziload_5_1 dX8_put_4 ?_
  refine zc_S_72 rfl dX8_put_5 (by decide) (Nat.le_of_ble_eq_true rfl) (sp_Terms_has M a ha) (fun r5 M5 hq5 => ?_)
  refine z_withR (fun hR => ?_)
  have e5 := hq5.1.symm
  subst e5
  have q5 := hq5.2
  rw [t1] at q5
  have q5 := or_if q5
  refine z_if_eq (tgt := 22) (or_rng q5) dX8_put_8 (by decide) (fun h8 => ?_) (fun h8 => ?_)
  · have n5 := or_no q5 h8
    refine z_iconst dX8_put_22 ?_
    refine z_iret rfl ?_ dX8_put_23
    first
      | exact bad (fun z => n5 z.1)
      | exact bad (fun z => n16 z.2)
  · have n5 := or_yes q5 h8
    refine zaload_5_0 dX8_put_11 ?_
    refine zg_S_10 rfl dX8_put_12 ?_
    refine ziload_5_2 dX8_put_15 ?_
    refine zc_S_72 rfl dX8_put_16 (by decide) (Nat.le_of_ble_eq_true rfl) (sp_Terms_has M b hb) (fun r16 M16 hq16 => ?_)
    refine z_withR (fun hR => ?_)
    have e16 := hq16.1.symm
    subst e16
    have q16 := hq16.2
    rw [t1] at q16
    have q16 := or_if q16
    refine z_if_ne (tgt := 24) (or_rng q16) dX8_put_19 (by decide) (fun h19 => ?_) (fun h19 => ?_)
    · have n16 := or_yes q16 h19
      obtain ⟨a', rfl⟩ : ∃ a' : Nat, a = a' := ⟨a.toNat, by omega⟩
      obtain ⟨b', rfl⟩ : ∃ b' : Nat, b = b' := ⟨b.toNat, by omega⟩
      have hin : inR (a' : Int) (B 0 0) ∧ inR (b' : Int) (B 0 0) := ⟨n5, n16⟩
      refine zaload_5_0 dX8_put_24 ?_
      refine zg_S_10 rfl dX8_put_25 ?_
      refine ziload_5_1 dX8_put_28 ?_
      refine ziload_5_2 dX8_put_29 ?_
      refine zc_S_76 rfl dX8_put_30 (by decide) (Nat.le_of_ble_eq_true rfl) (sp_Terms_find M a' b' ha hb (by omega)) (fun r30 M30 hq30 => ?_)
      refine z_withR (fun hR => ?_)
      have e30 := hq30.1.symm
      subst e30
      have q30 := hq30.2
      refine zistore_5_3 dX8_put_33 ?_
      refine ziload_5_3 dX8_put_34 ?_
      refine z_bipush dX8_put_35 (by decide) ?_
      refine z_icmp_eq (tgt := 42) (by rcases q30 with ⟨t, _, _, _, _, h5⟩ | ⟨h5, _⟩ <;> rw [h5] <;> unfold zrng <;> omega) (by first | omega | exact hR.1 _ _ (by decide) | exact zrng_toInt _) dX8_put_37 (by decide) (fun h37 => ?_) (fun h37 => ?_)
      · refine zaload_5_0 dX8_put_42 ?_
        refine zg_S_10 rfl dX8_put_43 ?_
        refine ziload_5_1 dX8_put_46 ?_
        refine ziload_5_2 dX8_put_47 ?_
        refine zc_S_80 rfl dX8_put_48 (by decide) (Nat.le_of_ble_eq_true rfl) (sp_Terms_add M a' b' (by omega) (by omega) (by omega)) (fun r48 M48 hq48 => ?_)
        refine z_withR (fun hR => ?_)
        have hj : jd (B 1) (B 2) (B 0 0) a' b' = none := by
          rcases q30 with ⟨t, k1, k2, _, _, k5⟩ | ⟨_, k⟩
          · omega
          · refine jd_none.mpr (fun t h3 ht => ?_)
            have := k t h3 (by omega)
            have k6 := t5 t h3 ht
            omega
        refine zistore_5_4 dX8_put_51 ?_
        refine ziload_5_4 dX8_put_53 ?_
        refine z_bipush dX8_put_55 (by decide) ?_
        refine z_icmp_eq (tgt := 67) (by rcases hq48 with ⟨_, h5, _⟩ | ⟨_, h5, _⟩ <;> rw [h5] <;> unfold zrng <;> omega) (by first | omega | exact hR.1 _ _ (by decide) | exact zrng_toInt _) dX8_put_57 (by decide) (fun h57 => ?_) (fun h57 => ?_)
        · refine ziload_5_4 dX8_put_67 ?_
          refine z_iret rfl ?_ dX8_put_69
          unfold fPut gPut
          rw [if_pos hin, Int.toNat_natCast, Int.toNat_natCast, hj]
          rcases hq48 with ⟨k1, k2, k3⟩ | ⟨k1, k2, k3⟩
          · first
              | omega
              | (rw [if_neg (fun z => z.2.2 (by omega))]
                 simp only
                 rw [if_pos (show B 0 0 = 20 by omega), k3]
                 exact ⟨k2, zfr.rf, h⟩)
          · first
              | omega
              | (rw [if_pos ⟨hin, rfl, by omega⟩]
                 simp only
                 rw [if_neg (show ¬ B 0 0 = 20 by omega), hq64, k3]
                 refine ⟨by omega, ?_, abC.put h (by omega) (by omega) (by omega) (jd_none.mp hj)⟩
                 exact ((((zfr.rf.mu (by decide)).mu (by decide)).mu (by decide)).mu (by decide)).mu (by decide))
        · refine zaload_5_0 dX8_put_60 ?_
          refine zg_S_58 rfl dX8_put_61 ?_
          refine zc_S_83 rfl dX8_put_64 (by decide) (Nat.le_of_ble_eq_true rfl) (sp_Rounds_forget M48) (fun r64 M64 hq64 => ?_)
          refine z_withR (fun hR => ?_)
          refine ziload_5_4 dX8_put_67 ?_
          refine z_iret rfl ?_ dX8_put_69
          unfold fPut gPut
          rw [if_pos hin, Int.toNat_natCast, Int.toNat_natCast, hj]
          rcases hq48 with ⟨k1, k2, k3⟩ | ⟨k1, k2, k3⟩
          · first
              | omega
              | (rw [if_neg (fun z => z.2.2 (by omega))]
                 simp only
                 rw [if_pos (show B 0 0 = 20 by omega), k3]
                 exact ⟨k2, zfr.rf, h⟩)
          · first
              | omega
              | (rw [if_pos ⟨hin, rfl, by omega⟩]
                 simp only
                 rw [if_neg (show ¬ B 0 0 = 20 by omega), hq64, k3]
                 refine ⟨by omega, ?_, abC.put h (by omega) (by omega) (by omega) (jd_none.mp hj)⟩
                 exact ((((zfr.rf.mu (by decide)).mu (by decide)).mu (by decide)).mu (by decide)).mu (by decide))
      · refine ziload_5_3 dX8_put_40 ?_
        refine z_iret rfl ?_ dX8_put_41
        obtain ⟨t, k1, k2, k3, k4, k5⟩ := q30.resolve_right (fun z => h37 z.1)
        rw [t1] at k2
        have k6 := t5 t k1 (by omega)
        have hj : jd (B 1) (B 2) (B 0 0) a' b' = some t := (jd_some hu).mpr ⟨k1, by omega, by omega, by omega⟩
        unfold fPut gPut
        rw [if_pos hin, Int.toNat_natCast, Int.toNat_natCast, hj, if_neg (fun z => by have := z.2.1; contradiction)]
        exact ⟨k5, zfr.rf, h⟩
    · have n16 := or_no q16 h19
      refine z_iconst dX8_put_22 ?_
      refine z_iret rfl ?_ dX8_put_23
      first
        | exact bad (fun z => n5 z.1)
        | exact bad (fun z => n16 z.2)
noncomputable def fPart (B : Nat → Nat → Nat) (t : Int) (o : Bool) : Int := if inR t (B 0 0) then (if t < 3 then -9 else if o then (B 2 t.toNat : Int) else (B 1 t.toNat : Int)) else -1
theorem sp_S_part (M : zMem) (B : Nat → Nat → Nat) (t : Int) (o : Bool) (ht : zrng t) (h : abC M B) : zSp zd_S_part 1 [zr 0, zi t, zi (if o then 1 else 0)] M (fun r M' => cOK M M' B r (fPart B t o)) := by
  refine zSp_in 0 [some (zr 0), some (zi t), some (zi (if o then 1 else 0))] rfl rfl (by decide +kernel) rfl ?_
  refine z_withR (fun hR => ?_)
  obtain ⟨t1, t2, t3, t4, t5, t6⟩ := id h.1.1
  have h8 := h.1.2.2.2.2.2.2.2
  refine zaload_3_0 dX8_part_0 ?_
  refine zg_S_10 rfl dX8_part_1 ?_
  refine ziload_3_1 dX8_part_4 ?_
  refine zc_S_72 rfl dX8_part_5 (by decide) (Nat.le_of_ble_eq_true rfl) (sp_Terms_has M t ht) (fun r5 M5 hq5 => ?_)
  refine z_withR (fun hR => ?_)
  have e5 := hq5.1.symm
  subst e5
  have q5 := hq5.2
  rw [t1] at q5
  have q5 := or_if q5
  refine z_if_ne (tgt := 13) (or_rng q5) dX8_part_8 (by decide) (fun h8 => ?_) (fun h8 => ?_)
  · have n5 := or_yes q5 h8
    obtain ⟨t', rfl⟩ : ∃ t' : Nat, t = t' := ⟨t.toNat, by omega⟩
    refine ziload_3_2 dX8_part_13 ?_
    refine z_if_eq (tgt := 29) (by cases o <;> decide) dX8_part_14 (by decide) (fun h14 => ?_) (fun h14 => ?_)
    · have ho : o = false := by cases o <;> simp at h14 ⊢
      refine zaload_3_0 dX8_part_29 ?_
      refine zg_S_10 rfl dX8_part_30 ?_
      refine zg_S_89 rfl dX8_part_33 ?_
      refine ziload_3_1 dX8_part_36 ?_
      refine z_iald _ rfl (by decide) (by decide) rfl (by omega) dX8_part_37 ?_
      refine z_iret rfl ?_ dX8_part_38
      refine ⟨?_, zfr.rf, h⟩
      unfold fPart
      rw [if_pos n5, ho]
      by_cases h3 : t' < 3
      · rw [if_pos (by omega)]
        first
          | exact (h.1.2.2.2.2.2.2.2 t' h3).1
          | exact (h.1.2.2.2.2.2.2.2 t' h3).2
      · rw [if_neg (by omega), Int.toNat_natCast]
        first
          | exact (t5 t' (by omega) (by omega)).1
          | exact (t5 t' (by omega) (by omega)).2
    · have ho : o = true := by cases o <;> simp at h14 ⊢
      refine zaload_3_0 dX8_part_17 ?_
      refine zg_S_10 rfl dX8_part_18 ?_
      refine zg_S_86 rfl dX8_part_21 ?_
      refine ziload_3_1 dX8_part_24 ?_
      refine z_iald _ rfl (by decide) (by decide) rfl (by omega) dX8_part_25 ?_
      refine z_goto (tgt := 38) dX8_part_26 (by decide) ?_
      refine z_iret rfl ?_ dX8_part_38
      refine ⟨?_, zfr.rf, h⟩
      unfold fPart
      rw [if_pos n5, ho]
      by_cases h3 : t' < 3
      · rw [if_pos (by omega)]
        first
          | exact (h.1.2.2.2.2.2.2.2 t' h3).1
          | exact (h.1.2.2.2.2.2.2.2 t' h3).2
      · rw [if_neg (by omega), Int.toNat_natCast]
        first
          | exact (t5 t' (by omega) (by omega)).1
          | exact (t5 t' (by omega) (by omega)).2
  · have n5 := or_no q5 h8
    refine z_iconst dX8_part_11 ?_
    refine z_iret rfl ?_ dX8_part_12
    unfold fPart
    rw [if_neg n5]
    exact ⟨rfl, zfr.rf, h⟩
def bLaw (B : Nat → Nat → Nat) (a b : Nat) : Nat → Nat → Nat := bs (bs (bs B 3 0 (B 3 0 + 1)) 4 (B 3 0) a) 5 (B 3 0) b
def fLaw (B : Nat → Nat → Nat) (a b : Int) : Int := if inR a (B 0 0) ∧ inR b (B 0 0) then (if B 3 0 = 6 then -4 else (B 3 0 : Int)) else -1
def gLaw (B : Nat → Nat → Nat) (a b : Int) : Nat → Nat → Nat := if (inR a (B 0 0) ∧ inR b (B 0 0)) ∧ ¬ B 3 0 = 6 then bLaw B a.toNat b.toNat else B
theorem abC0.page {M M' : zMem} {B B' : Nat → Nat → Nat} {S : List Nat} (h : abC0 M B) (hf : zfr S M M') (hS : ∀ c ∈ [1, 5, 8, 10, 11, 12, 21, 22, 23, 24, 25, 26], c ∉ S) (hb : ∀ c, c ≠ 3 → c ≠ 4 → c ≠ 5 → B' c = B c) (hP : pgC M' (B 0 0) (B' 3 0) (B' 4) (B' 5)) : abC0 M' B' := by
  obtain ⟨h1, h2, h3, h4, h5, h6, h7, h8⟩ := h
  refine ⟨?_, ?_, ?_, ?_, ?_, ?_, ?_, ?_⟩
  · rw [hb 0 (by decide) (by decide) (by decide), hb 1 (by decide) (by decide) (by decide), hb 2 (by decide) (by decide) (by decide)]
    exact h1.fr hf (hS _ (by decide)) (hS _ (by decide)) (hS _ (by decide)) (hS _ (by decide))
  · rw [hb 0 (by decide) (by decide) (by decide), hb 1 (by decide) (by decide) (by decide), hb 2 (by decide) (by decide) (by decide)]
    exact h2
  · rw [hb 0 (by decide) (by decide) (by decide)]
    exact hP
  · rw [hb 0 (by decide) (by decide) (by decide), hb 6 (by decide) (by decide) (by decide), hb 7 (by decide) (by decide) (by decide), hb 8 (by decide) (by decide) (by decide), hb 9 (by decide) (by decide) (by decide)]
    exact h4.fr hf (hS _ (by decide)) (hS _ (by decide)) (hS _ (by decide)) (hS _ (by decide)) (hS _ (by decide)) (hS _ (by decide))
  · unfold bAw
    rw [hb 6 (by decide) (by decide) (by decide), hb 10 (by decide) (by decide) (by decide)]
    exact h5.fr hf (hS _ (by decide))
  · rw [hf 8 (hS _ (by decide)), hb 11 (by decide) (by decide) (by decide)]; exact h6
  · rw [hb 0 (by decide) (by decide) (by decide), hb 12 (by decide) (by decide) (by decide), hb 13 (by decide) (by decide) (by decide), hb 14 (by decide) (by decide) (by decide)]
    exact h7
  · rw [hf 10 (hS _ (by decide)), hf 11 (hS _ (by decide))]; exact h8
theorem abC.page {M M' : zMem} {B B' : Nat → Nat → Nat} {P : Nat} (h : abC M B) (hf : zfr [2, 13, 14] M M') (hb : ∀ c, c ≠ 3 → c ≠ 4 → c ≠ 5 → B' c = B c) (hP : pgC M' (B 0 0) (B' 3 0) (B' 4) (B' 5)) (hl : ∀ l, l < B 3 0 → l < B' 3 0 → B' 4 l = B 4 l ∧ B' 5 l = B 5 l) (e3 : B' 3 0 = P) : abC (zmu (zmu (zmu (zmu M' 4 6 (if (P : Int) < M' 4 6 then (P : Int) else M' 4 6)) 6 8 0) 6 9 0) 7 5 0) B' := by
  subst e3
  obtain ⟨h0, hO, hK⟩ := h
  have hf2 : zfr [4, 6, 7] M' (zmu (zmu (zmu (zmu M' 4 6 (if (B' 3 0 : Int) < M' 4 6 then (B' 3 0 : Int) else M' 4 6)) 6 8 0) 6 9 0) 7 5 0) := (((zfr.rf.mu (by decide)).mu (by decide)).mu (by decide)).mu (by decide)
  refine ⟨h0.page (hf.tr hf2 (U := [2, 4, 6, 7, 13, 14]) (by decide) (by decide)) (by decide) hb (hP.fr hf2 (by decide) (by decide) (by decide)), Or.inl (zmu_same _ _ _ _), abK.page (hK.fr hf (by decide)) rfl hl (hb _ (by decide) (by decide) (by decide)) (hb _ (by decide) (by decide) (by decide)) (hb _ (by decide) (by decide) (by decide)) (hb _ (by decide) (by decide) (by decide)) (hb _ (by decide) (by decide) (by decide)) (hb _ (by decide) (by decide) (by decide)) (hb _ (by decide) (by decide) (by decide)) (hb _ (by decide) (by decide) (by decide)) (hb _ (by decide) (by decide) (by decide))⟩
theorem sp_S_law (M : zMem) (B : Nat → Nat → Nat) (a b : Int) (ha : zrng a) (hb : zrng b) (h : abC M B) : zSp zd_S_law 3 [zr 0, zi a, zi b] M (fun r M' => cOK M M' (gLaw B a b) r (fLaw B a b)) := by
  refine zSp_in 1 [some (zr 0), some (zi a), some (zi b), none] rfl rfl (by decide +kernel) rfl ?_
  refine z_withR (fun hR => ?_)
  have t1 := h.1.1.1
  have t20 := h.1.1.2.2.1
  obtain ⟨p1, p2, p3⟩ := id h.1.2.2.1
  have bad : ¬ (inR a (B 0 0) ∧ inR b (B 0 0)) → cOK M M (gLaw B a b) (-1) (fLaw B a b) := by
    intro hn
    unfold fLaw gLaw
    rw [if_neg hn, if_neg (fun q => hn q.1)]
    exact ⟨rfl, zfr.rf, h⟩
  refine zaload_4_0 dX8_law_0 ?_
  refine zg_S_10 rfl dX8_law_1 ?_
  refine ziload_4_1 dX8_law_4 ?_
  refine zc_S_72 rfl dX8_law_5 (by decide) (Nat.le_of_ble_eq_true rfl) (sp_Terms_has M a ha) (fun r5 M5 hq5 => ?_)
  refine z_withR (fun hR => ?_)
  have e5 := hq5.1.symm
  subst e5
  have q5 := hq5.2
  rw [t1] at q5
  have q5 := or_if q5
  refine z_if_eq (tgt := 22) (or_rng q5) dX8_law_8 (by decide) (fun h8 => ?_) (fun h8 => ?_)
  · have n5 := or_no q5 h8
    refine z_iconst dX8_law_22 ?_
    refine z_iret rfl ?_ dX8_law_23
    first
      | exact bad (fun z => n5 z.1)
      | exact bad (fun z => n16 z.2)
  · have n5 := or_yes q5 h8
    refine zaload_4_0 dX8_law_11 ?_
    refine zg_S_10 rfl dX8_law_12 ?_
    refine ziload_4_2 dX8_law_15 ?_
    refine zc_S_72 rfl dX8_law_16 (by decide) (Nat.le_of_ble_eq_true rfl) (sp_Terms_has M b hb) (fun r16 M16 hq16 => ?_)
    refine z_withR (fun hR => ?_)
    have e16 := hq16.1.symm
    subst e16
    have q16 := hq16.2
    rw [t1] at q16
    have q16 := or_if q16
    refine z_if_ne (tgt := 24) (or_rng q16) dX8_law_19 (by decide) (fun h19 => ?_) (fun h19 => ?_)
    · have n16 := or_yes q16 h19
      obtain ⟨a', rfl⟩ : ∃ a' : Nat, a = a' := ⟨a.toNat, by omega⟩
      obtain ⟨b', rfl⟩ : ∃ b' : Nat, b = b' := ⟨b.toNat, by omega⟩
      have hin : inR (a' : Int) (B 0 0) ∧ inR (b' : Int) (B 0 0) := ⟨n5, n16⟩
      refine zaload_4_0 dX8_law_24 ?_
      refine zg_S_19 rfl dX8_law_25 ?_
      refine ziload_4_1 dX8_law_28 ?_
      refine ziload_4_2 dX8_law_29 ?_
      refine zc_S_92 rfl dX8_law_30 (by decide) (Nat.le_of_ble_eq_true rfl) (sp_Page_add M a' b' ha hb (by omega)) (fun r30 M30 hq30 => ?_)
      refine z_withR (fun hR => ?_)
      refine zistore_4_3 dX8_law_33 ?_
      refine ziload_4_3 dX8_law_34 ?_
      refine z_bipush dX8_law_35 (by decide) ?_
      refine z_icmp_eq (tgt := 44) (by rcases hq30 with ⟨_, h5, _⟩ | ⟨_, h5, _⟩ <;> rw [h5] <;> unfold zrng <;> omega) (by first | omega | exact hR.1 _ _ (by decide) | exact zrng_toInt _) dX8_law_37 (by decide) (fun h37 => ?_) (fun h37 => ?_)
      · have f30 := hq30.resolve_right (fun z => by omega)
        refine ziload_4_3 dX8_law_44 ?_
        refine z_iret rfl ?_ dX8_law_45
        unfold fLaw gLaw
        rw [if_pos hin, Int.toNat_natCast, Int.toNat_natCast]
        first
          | (rw [if_neg (fun z => z.2 (by omega)), if_pos (by omega), f30.2.2]
             exact ⟨f30.2.1, zfr.rf, h⟩)
          | (rw [if_pos ⟨hin, by omega⟩, if_neg (by omega)]
             have hf : zfr [2, 13, 14] M M30 := by rw [f30.2.2]; exact ((zfr.rf.mu (by decide)).mu (by decide)).mu (by decide)
             refine ⟨by omega, ?_, ?_⟩
             · rw [hq41]
               exact ((((hf.up (by decide)).mu (by decide)).mu (by decide)).mu (by decide)).mu (by decide)
             · rw [hq41]
               exact abC.page (B' := bLaw B a' b') h hf (fun c h3 h4 h5 => by unfold bLaw bs; rw [if_neg h5, if_neg h4, if_neg h3]) hpg (fun l hl _ => ⟨fup_n (by omega), fup_n (by omega)⟩) rfl)
      · have f30 := hq30.resolve_left (fun z => by omega)
        have hpg : pgC M30 (B 0 0) (B 3 0 + 1) (fup (B 4) (B 3 0) a') (fup (B 5) (B 3 0) b') := by
          rw [f30.2.2]
          unfold mPageAdd
          rw [p1, Int.toNat_natCast]
          refine ⟨by rw [zmu_same]; omega, by omega, fun l hl => ?_⟩
          have m13 : ∀ v : Int, (zmu (zmu (zmu M 13 (B 3 0) a') 14 (B 3 0) b') 2 2 v) 13 l = zmu M 13 (B 3 0) a' 13 l := fun v => by rw [zmu_other _ _ _ _ (by decide), zmu_other _ _ _ _ (by decide)]
          have m14 : ∀ v : Int, (zmu (zmu (zmu M 13 (B 3 0) a') 14 (B 3 0) b') 2 2 v) 14 l = zmu (zmu M 13 (B 3 0) a') 14 (B 3 0) b' 14 l := fun v => by rw [zmu_other _ _ _ _ (by decide)]
          rw [m13, m14]
          by_cases e : l = B 3 0
          · rw [e, zmu_same, zmu_same, fup_s, fup_s]
            exact ⟨⟨rfl, rfl⟩, by omega⟩
          · rw [zmu_ne _ _ _ _ e, zmu_ne _ _ _ _ e, zmu_other _ _ _ _ (by decide), fup_n e, fup_n e]
            exact p3 l (by omega)
        refine zaload_4_0 dX8_law_40 ?_
        refine zc_S_93 rfl dX8_law_41 (by decide) (Nat.le_of_ble_eq_true rfl) (sp_S_pageChanged M30 (B 3 0 + 1) (by omega) hpg.1) (fun r41 M41 hq41 => ?_)
        refine z_withR (fun hR => ?_)
        refine ziload_4_3 dX8_law_44 ?_
        refine z_iret rfl ?_ dX8_law_45
        unfold fLaw gLaw
        rw [if_pos hin, Int.toNat_natCast, Int.toNat_natCast]
        first
          | (rw [if_neg (fun z => z.2 (by omega)), if_pos (by omega), f30.2.2]
             exact ⟨f30.2.1, zfr.rf, h⟩)
          | (rw [if_pos ⟨hin, by omega⟩, if_neg (by omega)]
             have hf : zfr [2, 13, 14] M M30 := by rw [f30.2.2]; exact ((zfr.rf.mu (by decide)).mu (by decide)).mu (by decide)
             refine ⟨by omega, ?_, ?_⟩
             · rw [hq41]
               exact ((((hf.up (by decide)).mu (by decide)).mu (by decide)).mu (by decide)).mu (by decide)
             · rw [hq41]
               exact abC.page (B' := bLaw B a' b') h hf (fun c h3 h4 h5 => by unfold bLaw bs; rw [if_neg h5, if_neg h4, if_neg h3]) hpg (fun l hl _ => ⟨fup_n (by omega), fup_n (by omega)⟩) rfl)
    · have n16 := or_no q16 h19
      refine z_iconst dX8_law_22 ?_
      refine z_iret rfl ?_ dX8_law_23
      first
        | exact bad (fun z => n5 z.1)
        | exact bad (fun z => n16 z.2)
def bUn (B : Nat → Nat → Nat) : Nat → Nat → Nat := bs B 3 0 (B 3 0 - 1)
def fUn (B : Nat → Nat → Nat) : Int := if B 3 0 = 0 then -3 else ((B 3 0 - 1 : Nat) : Int)
def gUn (B : Nat → Nat → Nat) : Nat → Nat → Nat := if B 3 0 = 0 then B else bUn B
theorem sp_S_unlaw (M : zMem) (B : Nat → Nat → Nat) (h : abC M B) : zSp zd_S_unlaw 3 [zr 0] M (fun r M' => cOK M M' (gUn B) r (fUn B)) := by
  refine zSp_in 0 [some (zr 0)] rfl rfl (by decide +kernel) rfl ?_
  refine z_withR (fun hR => ?_)
  obtain ⟨p1, p2, p3⟩ := id h.1.2.2.1
  have p1' : M 2 2 = (B 3 0 : Int) := p1
  have hpg : ¬ B 3 0 = 0 → pgC (zmu M 2 2 ((B 3 0 : Int) - 1)) (B 0 0) (B 3 0 - 1) (B 4) (B 5) := by
    intro h0
    refine ⟨by rw [zmu_same]; omega, by omega, fun l hl => ?_⟩
    rw [zmu_other _ _ _ _ (by decide), zmu_other _ _ _ _ (by decide)]
    exact p3 l (by omega)
  refine zaload_1_0 dX8_unlaw_0 ?_
  refine zg_S_19 rfl dX8_unlaw_1 ?_
  refine zg_S_96 rfl dX8_unlaw_4 ?_
  refine z_top p1 ?_
  refine z_if_ne (tgt := 13) (by first | omega | exact hR.1 _ _ (by decide) | exact zrng_toInt _) dX8_unlaw_7 (by decide) (fun h7 => ?_) (fun h7 => ?_)
  · have h0 : ¬ B 3 0 = 0 := by omega
    have hp2 := hpg h0
    refine zaload_1_0 dX8_unlaw_13 ?_
    refine zg_S_19 rfl dX8_unlaw_14 ?_
    refine z_dup (fun _ => rfl) dX8_unlaw_17 ?_
    refine zg_S_96 rfl dX8_unlaw_18 ?_
    refine z_top p1 ?_
    refine z_iconst dX8_unlaw_21 ?_
    refine z_isub dX8_unlaw_22 ?_
    refine zp_S_96 rfl (by first | omega | exact hR.1 _ _ (by decide) | exact zrng_toInt _) dX8_unlaw_23 ?_
    refine z_withR (fun hR => ?_)
    refine zaload_1_0 dX8_unlaw_26 ?_
    refine zc_S_93 rfl dX8_unlaw_27 (by decide) (Nat.le_of_ble_eq_true rfl) (sp_S_pageChanged _ (B 3 0 - 1) (by omega) hp2.1) (fun r27 M27 hq27 => ?_)
    refine z_withR (fun hR => ?_)
    subst hq27
    have p1 : (zmu (zmu (zmu (zmu (zmu M 2 2 ((B 3 0 : Int) - 1)) 4 6 (if ((B 3 0 - 1 : Nat) : Int) < zmu M 2 2 ((B 3 0 : Int) - 1) 4 6 then ((B 3 0 - 1 : Nat) : Int) else zmu M 2 2 ((B 3 0 : Int) - 1) 4 6)) 6 8 0) 6 9 0) 7 5 0) 2 2 = ((B 3 0 - 1 : Nat) : Int) := by
      rw [zmu_other _ _ _ _ (by decide), zmu_other _ _ _ _ (by decide), zmu_other _ _ _ _ (by decide), zmu_other _ _ _ _ (by decide)]
      exact hp2.1
    refine zaload_1_0 dX8_unlaw_30 ?_
    refine zg_S_19 rfl dX8_unlaw_31 ?_
    refine zg_S_96 rfl dX8_unlaw_34 ?_
    refine z_top p1 ?_
    refine z_iret rfl ?_ dX8_unlaw_37
    unfold fUn gUn
    rw [if_neg h0, if_neg h0]
    refine ⟨rfl, ?_, ?_⟩
    · exact ((((zfr.rf.mu (by decide)).mu (by decide)).mu (by decide)).mu (by decide)).mu (by decide)
    · exact abC.page (B' := bUn B) h (zfr.rf.mu (by decide)) (fun c h3 h4 h5 => by unfold bUn bs; rw [if_neg h3]) hp2 (fun l hl _ => ⟨rfl, rfl⟩) rfl
  · have h0 : B 3 0 = 0 := by omega
    refine z_bipush dX8_unlaw_10 (by decide) ?_
    refine z_iret rfl ?_ dX8_unlaw_12
    unfold fUn gUn
    rw [if_pos h0, if_pos h0]
    exact ⟨rfl, zfr.rf, h⟩
