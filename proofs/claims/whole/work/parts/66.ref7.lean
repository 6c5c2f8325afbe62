theorem uq_put {L R : Nat → Nat} {T a b : Nat} (h2 : uqT L R T) (hn : ∀ t, 3 ≤ t → t < T → ¬ (L t = a ∧ R t = b)) : uqT (fup L T a) (fup R T b) (T + 1) := by
  intro t u h3t ht h3u hu e1 e2
  by_cases et : t = T <;> by_cases eu : u = T
  · rw [et, eu]
  · rw [et, fup_s, fup_n eu] at e1
    rw [et, fup_s, fup_n eu] at e2
    exact absurd ⟨e1.symm, e2.symm⟩ (hn u h3u (by omega))
  · rw [eu, fup_s, fup_n et] at e1
    rw [eu, fup_s, fup_n et] at e2
    exact absurd ⟨e1, e2⟩ (hn t h3t (by omega))
  · rw [fup_n et, fup_n eu] at e1
    rw [fup_n et, fup_n eu] at e2
    exact h2 t u h3t (by omega) h3u (by omega) e1 e2
theorem wf_put {L R : Nat → Nat} {T a b : Nat} (h : wfT L R T) (ha : a < T) (hb : b < T) : wfT (fup L T a) (fup R T b) (T + 1) := by
  intro t h3 ht
  by_cases e : t = T
  · rw [e, fup_s, fup_s]; exact ⟨ha, hb⟩
  · rw [fup_n e, fup_n e]; exact h t h3 (by omega)
theorem abR.put {M : zMem} {B : Nat → Nat → Nat} {a b : Nat} (h : abR M B) (ha : a < B 0 0) (hb : b < B 0 0) (hT : B 0 0 < 20) (hn : jd (B 1) (B 2) (B 0 0) a b = none) : abR (zmu (zmu (zmu (zmu M 35 (B 0 0) a) 36 (B 0 0) b) 37 (20 * a + b) (B 0 0)) 9 0 ((B 0 0 : Int) + 1)) (bPut B a b) := by
  obtain ⟨⟨h1, h2, h3, h4, h5, h6, h7⟩, hc⟩ := h
  obtain ⟨t1, t2, t3, t4, t5⟩ := id h1
  have hu' := uq_put h2 (jd_none.mp hn)
  have he : ∀ t, 3 ≤ t → t < B 0 0 → fup (B 1) (B 0 0) a t = B 1 t ∧ fup (B 2) (B 0 0) b t = B 2 t := fun t _ ht => ⟨fup_n (by omega), fup_n (by omega)⟩
  have hf : zfr [9, 35, 36, 37] M (zmu (zmu (zmu (zmu M 35 (B 0 0) a) 36 (B 0 0) b) 37 (20 * a + b) (B 0 0)) 9 0 ((B 0 0 : Int) + 1)) := (((zfr.rf.mu (by decide)).mu (by decide)).mu (by decide)).mu (by decide)
  have g9 : ∀ i, i ≠ 0 → (zmu (zmu (zmu (zmu M 35 (B 0 0) a) 36 (B 0 0) b) 37 (20 * a + b) (B 0 0)) 9 0 ((B 0 0 : Int) + 1)) 9 i = M 9 i := fun i hi => by
    rw [zmu_ne _ _ _ _ hi, zmu_other _ _ _ _ (by decide), zmu_other _ _ _ _ (by decide), zmu_other _ _ _ _ (by decide)]
  have g35 : ∀ i, (zmu (zmu (zmu (zmu M 35 (B 0 0) a) 36 (B 0 0) b) 37 (20 * a + b) (B 0 0)) 9 0 ((B 0 0 : Int) + 1)) 35 i = zmu M 35 (B 0 0) a 35 i := fun i => by
    rw [zmu_other _ _ _ _ (by decide), zmu_other _ _ _ _ (by decide), zmu_other _ _ _ _ (by decide)]
  have g36 : ∀ i, (zmu (zmu (zmu (zmu M 35 (B 0 0) a) 36 (B 0 0) b) 37 (20 * a + b) (B 0 0)) 9 0 ((B 0 0 : Int) + 1)) 36 i = zmu (zmu M 35 (B 0 0) a) 36 (B 0 0) b 36 i := fun i => by
    rw [zmu_other _ _ _ _ (by decide), zmu_other _ _ _ _ (by decide)]
  have g37 : ∀ i, (zmu (zmu (zmu (zmu M 35 (B 0 0) a) 36 (B 0 0) b) 37 (20 * a + b) (B 0 0)) 9 0 ((B 0 0 : Int) + 1)) 37 i = if i = 20 * a + b then (B 0 0 : Int) else M 37 i := fun i => by
    rw [zmu_other _ _ _ _ (by decide)]
    by_cases e : i = 20 * a + b
    · rw [e, zmu_same, if_pos rfl]
    · rw [zmu_ne _ _ _ _ e, zmu_other _ _ _ _ (by decide), zmu_other _ _ _ _ (by decide), if_neg e]
  generalize (zmu (zmu (zmu (zmu M 35 (B 0 0) a) 36 (B 0 0) b) 37 (20 * a + b) (B 0 0)) 9 0 ((B 0 0 : Int) + 1)) 9 0 = v0
  have bo : ∀ c, 3 ≤ c → bPut B a b c = B c := by
    intro c hc
    unfold bPut bs
    rw [if_neg (by omega), if_neg (by omega), if_neg (by omega)]
  have b0 : bPut B a b 0 0 = B 0 0 + 1 := rfl
  have b1 : bPut B a b 1 = fup (B 1) (B 0 0) a := rfl
  have b2 : bPut B a b 2 = fup (B 2) (B 0 0) b := rfl
  refine ⟨⟨⟨?_, ?_, ?_, ?_, ?_⟩, ?_, ?_, ?_, ?_, ?_, ?_⟩, ?_⟩
  · rw [zmu_same, b0]; omega
  · rw [b0]; omega
  · rw [b0]; omega
  · rw [b0, b1, b2]; exact wf_put t4 ha hb
  · rw [b0, b1, b2]
    intro t h3' ht
    rw [g35, g36]
    by_cases e : t = B 0 0
    · rw [e, zmu_same, zmu_same, fup_s, fup_s]; exact ⟨rfl, rfl⟩
    · rw [zmu_ne _ _ _ _ e, zmu_ne _ _ _ _ e, zmu_other _ _ _ _ (by decide), fup_n e, fup_n e]; exact t5 t h3' (by omega)
  · rw [b0, b1, b2]; exact hu'
  · rw [b0, b1, b2]
    intro x y hx hy
    rw [g37, jdI_put h2 t4 t2 ha hb hn hu']
    by_cases e : x = a ∧ y = b
    · rw [if_pos (by omega), if_pos e]
    · rw [if_neg (by omega), if_neg e]; exact h3 x y hx hy
  · rw [b0, bo 3 (by omega), bo 4 (by omega), bo 5 (by omega)]
    have h4' := h4.fr hf (g9 4 (by decide)) (by decide) (by decide)
    exact ⟨h4'.1, h4'.2.1, fun l hl => ⟨(h4'.2.2 l hl).1, by have := (h4'.2.2 l hl).2; omega⟩⟩
  · unfold ntR bAw
    rw [b0, bo 6 (by omega), bo 7 (by omega), bo 8 (by omega), bo 9 (by omega), bo 10 (by omega), g9 18 (by decide), hf 48 (by decide), hf 49 (by decide), hf 50 (by decide), hf 51 (by decide)]
    refine ⟨h5.1, h5.2.1, fun i hi => ?_, h5.2.2.2⟩
    obtain ⟨q1, q2, q3⟩ := h5.2.2.1 i hi
    exact ⟨q1, fun h => by have := q2 h; omega, q3⟩
  · rw [bo 11 (by omega), hf 54 (by decide)]; exact h6
  · unfold slR
    rw [b0, bo 12 (by omega), bo 13 (by omega), bo 14 (by omega), hf 56 (by decide), hf 57 (by decide), hf 58 (by decide)]
    intro s hs
    exact ⟨(h7 s hs).1, (h7 s hs).2.1, fun l hl => ⟨((h7 s hs).2.2 l hl).1, by have := ((h7 s hs).2.2 l hl).2; omega⟩⟩
  · refine (hc.fr hf (by decide) (g9 7 (by decide)) (g9 15 (by decide)) (g9 25 (by decide))).re (by rw [bo 3 (by omega)]) (by rw [bo 6 (by omega)]; exact Nat.le_refl _) (fun n k l hl => ?_) (fun e i hi => ?_)
    · have := (h4.2.2 l hl).2
      rw [b1, b2, bo 4 (by omega), bo 5 (by omega)]
      exact kp_congr t4 he this.1 this.2
    · unfold bS sE
      rw [b1, b2, bo 7 (by omega), bo 8 (by omega), bo 9 (by omega)]
      exact so_congr t4 h5.2.2.1 he (fun i _ => ⟨rfl, rfl, rfl⟩) i hi
theorem sp_Model_put (M : zMem) (B : Nat → Nat → Nat) (a b : Int) (ha : zrng a) (hb : zrng b) (h : abR M B) : zSp zd_Model_put 2 [zr 9, zi a, zi b] M (fun r M' => rOK M M' (gPut B a b) r (fPut B a b)) := by
  refine zSp_in 0 [some (zr 9), some (zi a), some (zi b)] rfl rfl (by decide +kernel) rfl ?_
  refine z_withR (fun hR => ?_)
  obtain ⟨t1, t2, t3, t4, t5⟩ := id h.1.1
  have hu := h.1.2.1
  have bad : ¬ (inR a (B 0 0) ∧ inR b (B 0 0)) → rOK M M (gPut B a b) (-1) (fPut B a b) := by
    intro hn
    unfold fPut gPut
    rw [if_neg hn, if_neg (fun q => hn q.1)]
    exact ⟨rfl, zfr.rf, h⟩
  refine zaload_3_0 dX9_put_0 ?_
  refine ziload_3_1 dX9_put_1 ?_
  refine zc_Model_109 rfl dX9_put_2 (by decide) (Nat.le_of_ble_eq_true rfl) (sp_Model_isTerm M a (B 0 0) ha t1 t3) (fun r2 M2 hq2 => ?_)
  refine z_withR (fun hR => ?_)
  have e2 := hq2.1.symm
  subst e2
  have q2 := hq2.2
  have q2 := or_if q2
  refine z_if_eq (tgt := 16) (or_rng q2) dX9_put_5 (by decide) (fun h5 => ?_) (fun h5 => ?_)
  · have n5 := or_no q2 h5
    refine z_iconst dX9_put_16 ?_
    refine z_iret rfl ?_ dX9_put_17
    first
      | exact bad (fun z => n5 z.1)
      | exact bad (fun z => n16 z.2)
  · have n5 := or_yes q2 h5
    refine zaload_3_0 dX9_put_8 ?_
    refine ziload_3_2 dX9_put_9 ?_
    refine zc_Model_109 rfl dX9_put_10 (by decide) (Nat.le_of_ble_eq_true rfl) (sp_Model_isTerm M b (B 0 0) hb t1 t3) (fun r10 M10 hq10 => ?_)
    refine z_withR (fun hR => ?_)
    have e10 := hq10.1.symm
    subst e10
    have q10 := hq10.2
    have q10 := or_if q10
    refine z_if_ne (tgt := 18) (or_rng q10) dX9_put_13 (by decide) (fun h13 => ?_) (fun h13 => ?_)
    · have n16 := or_yes q10 h13
      obtain ⟨a', rfl⟩ : ∃ a' : Nat, a = a' := ⟨a.toNat, by omega⟩
      obtain ⟨b', rfl⟩ : ∃ b' : Nat, b = b' := ⟨b.toNat, by omega⟩
      have hin : inR (a' : Int) (B 0 0) ∧ inR (b' : Int) (B 0 0) := ⟨n5, n16⟩
      have hj := h.1.2.2.1 a' b' (by omega) (by omega)
      refine zaload_3_0 dX9_put_18 ?_
      refine zg_Model_20 rfl dX9_put_19 ?_
      refine z_bipush dX9_put_22 (by decide) ?_
      refine ziload_3_1 dX9_put_24 ?_
      refine z_imul dX9_put_25 ?_
      refine ziload_3_2 dX9_put_26 ?_
      refine z_iadd dX9_put_27 ?_
      refine z_iald (20 * a' + b') rfl (by decide) (by decide) (by omega) (by omega) dX9_put_28 ?_
      refine z_top hj ?_
      refine z_bipush dX9_put_29 (by decide) ?_
      refine z_icmp_eq (tgt := 46) (by unfold jdI; split <;> rename_i z; exact (by have := ((jd_some hu).mp z).2.1; omega); decide) (by first | omega | exact hR.1 _ _ (by decide) | exact zrng_toInt _) dX9_put_31 (by decide) (fun h31 => ?_) (fun h31 => ?_)
      · have hjn : jd (B 1) (B 2) (B 0 0) a' b' = none := by
          unfold jdI at h31
          split at h31
          · omega
          · assumption
        refine zaload_3_0 dX9_put_46 ?_
        refine zg_Model_7 rfl dX9_put_47 ?_
        refine z_top t1 ?_
        refine z_bipush dX9_put_50 (by decide) ?_
        refine z_icmp_ne (tgt := 58) (by first | omega | exact hR.1 _ _ (by decide) | exact zrng_toInt _) (by first | omega | exact hR.1 _ _ (by decide) | exact zrng_toInt _) dX9_put_52 (by decide) (fun h52 => ?_) (fun h52 => ?_)
        · refine zaload_3_0 dX9_put_58 ?_
          refine zg_Model_13 rfl dX9_put_59 ?_
          refine zaload_3_0 dX9_put_62 ?_
          refine zg_Model_7 rfl dX9_put_63 ?_
          refine z_top t1 ?_
          refine ziload_3_1 dX9_put_66 ?_
          refine z_iast (B 0 0) (by decide) rfl (by decide) (by decide) (by omega) (by omega) (by first | omega | exact hR.1 _ _ (by decide) | exact zrng_toInt _) dX9_put_67 ?_
          refine z_withR (fun hR => ?_)
          refine zaload_3_0 dX9_put_68 ?_
          refine zg_Model_17 rfl dX9_put_69 ?_
          refine zaload_3_0 dX9_put_72 ?_
          refine zg_Model_7 rfl dX9_put_73 ?_
          refine z_top t1 ?_
          refine ziload_3_2 dX9_put_76 ?_
          refine z_iast (B 0 0) (by decide) rfl (by decide) (by decide) (by omega) (by omega) (by first | omega | exact hR.1 _ _ (by decide) | exact zrng_toInt _) dX9_put_77 ?_
          refine z_withR (fun hR => ?_)
          refine zaload_3_0 dX9_put_78 ?_
          refine zg_Model_20 rfl dX9_put_79 ?_
          refine z_bipush dX9_put_82 (by decide) ?_
          refine ziload_3_1 dX9_put_84 ?_
          refine z_imul dX9_put_85 ?_
          refine ziload_3_2 dX9_put_86 ?_
          refine z_iadd dX9_put_87 ?_
          refine zaload_3_0 dX9_put_88 ?_
          refine zg_Model_7 rfl dX9_put_89 ?_
          refine z_top t1 ?_
          refine z_iast (20 * a' + b') (by decide) rfl (by decide) (by decide) (by omega) (by omega) (by first | omega | exact hR.1 _ _ (by decide) | exact zrng_toInt _) dX9_put_92 ?_
          refine z_withR (fun hR => ?_)
          refine zaload_3_0 dX9_put_93 ?_
          refine z_dup (fun _ => rfl) dX9_put_94 ?_
          refine zg_Model_7 rfl dX9_put_95 ?_
          refine z_top t1 ?_
          refine z_iconst dX9_put_98 ?_
          refine z_iadd dX9_put_99 ?_
          refine zp_Model_7 rfl (by first | omega | exact hR.1 _ _ (by decide) | exact zrng_toInt _) dX9_put_100 ?_
          refine z_withR (fun hR => ?_)
          have t1 := zmu_same (zmu (zmu (zmu M 35 (B 0 0) (a' : Int)) 36 (B 0 0) (b' : Int)) 37 (20 * a' + b') (B 0 0 : Int)) 9 0 ((B 0 0 : Int) + 1)
          refine zaload_3_0 dX9_put_103 ?_
          refine zg_Model_7 rfl dX9_put_104 ?_
          refine z_top t1 ?_
          refine z_iconst dX9_put_107 ?_
          refine z_isub dX9_put_108 ?_
          refine z_iret rfl ?_ dX9_put_109
          unfold fPut gPut
          rw [if_pos hin, Int.toNat_natCast, Int.toNat_natCast, hjn, if_pos ⟨hin, rfl, by omega⟩]
          refine ⟨?_, ?_, h.put (by omega) (by omega) (by omega) hjn⟩
          · simp only
            rw [if_neg (by omega)]
            omega
          · exact (((zfr.rf.mu (by decide)).mu (by decide)).mu (by decide)).mu (by decide)
        · refine z_bipush dX9_put_55 (by decide) ?_
          refine z_iret rfl ?_ dX9_put_57
          unfold fPut gPut
          rw [if_pos hin, Int.toNat_natCast, Int.toNat_natCast, hjn, if_neg (fun z => z.2.2 (by omega))]
          refine ⟨?_, zfr.rf, h⟩
          simp only
          rw [if_pos (by omega)]
      · refine zaload_3_0 dX9_put_34 ?_
        refine zg_Model_20 rfl dX9_put_35 ?_
        refine z_bipush dX9_put_38 (by decide) ?_
        refine ziload_3_1 dX9_put_40 ?_
        refine z_imul dX9_put_41 ?_
        refine ziload_3_2 dX9_put_42 ?_
        refine z_iadd dX9_put_43 ?_
        refine z_iald (20 * a' + b') rfl (by decide) (by decide) (by omega) (by omega) dX9_put_44 ?_
        refine z_top hj ?_
        refine z_iret rfl ?_ dX9_put_45
        refine ⟨?_, zfr.rf, ?_⟩
        · unfold fPut
          rw [if_pos hin, Int.toNat_natCast, Int.toNat_natCast]
          unfold jdI at h31 ⊢
          rcases hz : jd (B 1) (B 2) (B 0 0) a' b' with _ | t
          · rw [hz] at h31; exact absurd rfl h31
          · rfl
        · unfold gPut
          rw [if_neg (fun z => ?_)]
          · exact h
          · rw [Int.toNat_natCast, Int.toNat_natCast] at z
            unfold jdI at h31
            rw [z.2.1] at h31
            exact absurd rfl h31
    · have n16 := or_no q10 h13
      refine z_iconst dX9_put_16 ?_
      refine z_iret rfl ?_ dX9_put_17
      first
        | exact bad (fun z => n5 z.1)
        | exact bad (fun z => n16 z.2)
theorem sp_Model_part (M : zMem) (B : Nat → Nat → Nat) (t : Int) (o : Bool) (ht : zrng t) (h : abR M B) : zSp zd_Model_part 2 [zr 9, zi t, zi (if o then 1 else 0)] M (fun r M' => rOK M M' B r (fPart B t o)) := by
  refine zSp_in 0 [some (zr 9), some (zi t), some (zi (if o then 1 else 0))] rfl rfl (by decide +kernel) rfl ?_
  refine z_withR (fun hR => ?_)
  obtain ⟨t1, t2, t3, t4, t5⟩ := id h.1.1
  refine zaload_3_0 dX9_part_0 ?_
  refine ziload_3_1 dX9_part_1 ?_
  refine zc_Model_109 rfl dX9_part_2 (by decide) (Nat.le_of_ble_eq_true rfl) (sp_Model_isTerm M t (B 0 0) ht t1 t3) (fun r2 M2 hq2 => ?_)
  refine z_withR (fun hR => ?_)
  have e2 := hq2.1.symm
  subst e2
  have q2 := hq2.2
  have q2 := or_if q2
  refine z_if_ne (tgt := 10) (or_rng q2) dX9_part_5 (by decide) (fun h5 => ?_) (fun h5 => ?_)
  · have n5 := or_yes q2 h5
    obtain ⟨t', rfl⟩ : ∃ t' : Nat, t = t' := ⟨t.toNat, by omega⟩
    refine ziload_3_1 dX9_part_10 ?_
    refine z_iconst dX9_part_11 ?_
    refine z_icmp_ge (tgt := 20) (by first | omega | exact hR.1 _ _ (by decide) | exact zrng_toInt _) (by first | omega | exact hR.1 _ _ (by decide) | exact zrng_toInt _) dX9_part_12 (by decide) (fun h12 => ?_) (fun h12 => ?_)
    · refine ziload_3_2 dX9_part_20 ?_
      refine z_if_eq (tgt := 33) (by cases o <;> decide) dX9_part_21 (by decide) (fun h21 => ?_) (fun h21 => ?_)
      · have ho : o = false := by cases o <;> simp at h21 ⊢
        refine zaload_3_0 dX9_part_33 ?_
        refine zg_Model_13 rfl dX9_part_34 ?_
        refine ziload_3_1 dX9_part_37 ?_
        refine z_iald _ rfl (by decide) (by decide) rfl (by omega) dX9_part_38 ?_
        refine z_iret rfl ?_ dX9_part_39
        refine ⟨?_, zfr.rf, h⟩
        unfold fPart
        rw [if_pos n5]
        first
          | (rw [if_pos (show ((t' : Nat) : Int) < 3 by omega)]; done)
          | (rw [if_neg (show ¬ ((t' : Nat) : Int) < 3 by omega), ho, Int.toNat_natCast]
             exact (t5 t' (by omega) (by omega)).1)
          | (rw [if_neg (show ¬ ((t' : Nat) : Int) < 3 by omega), ho, Int.toNat_natCast]
             exact (t5 t' (by omega) (by omega)).2)
      · have ho : o = true := by cases o <;> simp at h21 ⊢
        refine zaload_3_0 dX9_part_24 ?_
        refine zg_Model_17 rfl dX9_part_25 ?_
        refine ziload_3_1 dX9_part_28 ?_
        refine z_iald _ rfl (by decide) (by decide) rfl (by omega) dX9_part_29 ?_
        refine z_goto (tgt := 39) dX9_part_30 (by decide) ?_
        refine z_iret rfl ?_ dX9_part_39
        refine ⟨?_, zfr.rf, h⟩
        unfold fPart
        rw [if_pos n5]
        first
          | (rw [if_pos (show ((t' : Nat) : Int) < 3 by omega)]; done)
          | (rw [if_neg (show ¬ ((t' : Nat) : Int) < 3 by omega), ho, Int.toNat_natCast]
             exact (t5 t' (by omega) (by omega)).1)
          | (rw [if_neg (show ¬ ((t' : Nat) : Int) < 3 by omega), ho, Int.toNat_natCast]
             exact (t5 t' (by omega) (by omega)).2)
    · refine z_bipush dX9_part_15 (by decide) ?_
      refine z_goto (tgt := 39) dX9_part_17 (by decide) ?_
      refine z_iret rfl ?_ dX9_part_39
      refine ⟨?_, zfr.rf, h⟩
      unfold fPart
      rw [if_pos n5]
      first
        | (rw [if_pos (show ((t' : Nat) : Int) < 3 by omega)]; done)
        | (rw [if_neg (show ¬ ((t' : Nat) : Int) < 3 by omega), ho, Int.toNat_natCast]
           exact (t5 t' (by omega) (by omega)).1)
        | (rw [if_neg (show ¬ ((t' : Nat) : Int) < 3 by omega), ho, Int.toNat_natCast]
           exact (t5 t' (by omega) (by omega)).2)
  · have n5 := or_no q2 h5
    refine z_iconst dX9_part_8 ?_
    refine z_iret rfl ?_ dX9_part_9
    unfold fPart
    rw [if_neg n5]
    exact ⟨rfl, zfr.rf, h⟩
theorem abR.page {M M' : zMem} {B B' : Nat → Nat → Nat} (h : abR M B) (hf : zfr [9, 38, 39] M M') (hb : ∀ c, c ≠ 3 → c ≠ 4 → c ≠ 5 → B' c = B c) (g9 : ∀ i, i ≠ 4 → i ≠ 7 → M' 9 i = M 9 i) (h7 : M' 9 7 = 0) (hP : lwR M' (B 0 0) (B' 3 0) (B' 4) (B' 5)) : abR M' B' := by
  obtain ⟨⟨k1, k2, k3, k4, k5, k6, k7⟩, hc⟩ := h
  have b0 := hb 0 (by decide) (by decide) (by decide)
  have b1 := hb 1 (by decide) (by decide) (by decide)
  have b2 := hb 2 (by decide) (by decide) (by decide)
  refine ⟨⟨?_, ?_, ?_, ?_, ?_, ?_, ?_⟩, Or.inl h7⟩
  · rw [b0, b1, b2]; exact k1.fr hf (g9 0 (by decide) (by decide)) (by decide) (by decide)
  · rw [b0, b1, b2]; exact k2
  · rw [b0, b1, b2, hf 37 (by decide)]; exact k3
  · rw [b0]; exact hP
  · unfold ntR bAw
    rw [b0, hb 6 (by decide) (by decide) (by decide), hb 7 (by decide) (by decide) (by decide), hb 8 (by decide) (by decide) (by decide), hb 9 (by decide) (by decide) (by decide), hb 10 (by decide) (by decide) (by decide), g9 18 (by decide) (by decide), hf 48 (by decide), hf 49 (by decide), hf 50 (by decide), hf 51 (by decide)]
    exact k5
  · rw [hb 11 (by decide) (by decide) (by decide), hf 54 (by decide)]; exact k6
  · unfold slR
    rw [b0, hb 12 (by decide) (by decide) (by decide), hb 13 (by decide) (by decide) (by decide), hb 14 (by decide) (by decide) (by decide), hf 56 (by decide), hf 57 (by decide), hf 58 (by decide)]
    exact k7
theorem sp_Model_law (M : zMem) (B : Nat → Nat → Nat) (a b : Int) (ha : zrng a) (hb : zrng b) (h : abR M B) : zSp zd_Model_law 2 [zr 9, zi a, zi b] M (fun r M' => rOK M M' (gLaw B a b) r (fLaw B a b)) := by
  refine zSp_in 0 [some (zr 9), some (zi a), some (zi b)] rfl rfl (by decide +kernel) rfl ?_
  refine z_withR (fun hR => ?_)
  have t1 := h.1.1.1
  have t3 := h.1.1.2.2.1
  obtain ⟨p1, p2, p3⟩ := id h.1.2.2.2.1
  have bad : ¬ (inR a (B 0 0) ∧ inR b (B 0 0)) → rOK M M (gLaw B a b) (-1) (fLaw B a b) := by
    intro hn
    unfold fLaw gLaw
    rw [if_neg hn, if_neg (fun q => hn q.1)]
    exact ⟨rfl, zfr.rf, h⟩
  refine zaload_3_0 dX9_law_0 ?_
  refine ziload_3_1 dX9_law_1 ?_
  refine zc_Model_109 rfl dX9_law_2 (by decide) (Nat.le_of_ble_eq_true rfl) (sp_Model_isTerm M a (B 0 0) ha t1 t3) (fun r2 M2 hq2 => ?_)
  refine z_withR (fun hR => ?_)
  have e2 := hq2.1.symm
  subst e2
  have q2 := hq2.2
  have q2 := or_if q2
  refine z_if_eq (tgt := 16) (or_rng q2) dX9_law_5 (by decide) (fun h5 => ?_) (fun h5 => ?_)
  · have n5 := or_no q2 h5
    refine z_iconst dX9_law_16 ?_
    refine z_iret rfl ?_ dX9_law_17
    first
      | exact bad (fun z => n5 z.1)
      | exact bad (fun z => n16 z.2)
  · have n5 := or_yes q2 h5
    refine zaload_3_0 dX9_law_8 ?_
    refine ziload_3_2 dX9_law_9 ?_
    refine zc_Model_109 rfl dX9_law_10 (by decide) (Nat.le_of_ble_eq_true rfl) (sp_Model_isTerm M b (B 0 0) hb t1 t3) (fun r10 M10 hq10 => ?_)
    refine z_withR (fun hR => ?_)
    have e10 := hq10.1.symm
    subst e10
    have q10 := hq10.2
    have q10 := or_if q10
    refine z_if_ne (tgt := 18) (or_rng q10) dX9_law_13 (by decide) (fun h13 => ?_) (fun h13 => ?_)
    · have n16 := or_yes q10 h13
      obtain ⟨a', rfl⟩ : ∃ a' : Nat, a = a' := ⟨a.toNat, by omega⟩
      obtain ⟨b', rfl⟩ : ∃ b' : Nat, b = b' := ⟨b.toNat, by omega⟩
      have hin : inR (a' : Int) (B 0 0) ∧ inR (b' : Int) (B 0 0) := ⟨n5, n16⟩
      refine zaload_3_0 dX9_law_18 ?_
      refine zg_Model_113 rfl dX9_law_19 ?_
      refine z_top p1 ?_
      refine z_bipush dX9_law_22 (by decide) ?_
      refine z_icmp_ne (tgt := 30) (by first | omega | exact hR.1 _ _ (by decide) | exact zrng_toInt _) (by first | omega | exact hR.1 _ _ (by decide) | exact zrng_toInt _) dX9_law_24 (by decide) (fun h24 => ?_) (fun h24 => ?_)
      · refine zaload_3_0 dX9_law_30 ?_
        refine zg_Model_23 rfl dX9_law_31 ?_
        refine zaload_3_0 dX9_law_34 ?_
        refine zg_Model_113 rfl dX9_law_35 ?_
        refine z_top p1 ?_
        refine ziload_3_1 dX9_law_38 ?_
        refine z_iast (B 3 0) (by decide) rfl (by decide) (by decide) (by omega) (by omega) (by first | omega | exact hR.1 _ _ (by decide) | exact zrng_toInt _) dX9_law_39 ?_
        refine z_withR (fun hR => ?_)
        refine zaload_3_0 dX9_law_40 ?_
        refine zg_Model_26 rfl dX9_law_41 ?_
        refine zaload_3_0 dX9_law_44 ?_
        refine zg_Model_113 rfl dX9_law_45 ?_
        refine z_top p1 ?_
        refine ziload_3_2 dX9_law_48 ?_
        refine z_iast (B 3 0) (by decide) rfl (by decide) (by decide) (by omega) (by omega) (by first | omega | exact hR.1 _ _ (by decide) | exact zrng_toInt _) dX9_law_49 ?_
        refine z_withR (fun hR => ?_)
        refine zaload_3_0 dX9_law_50 ?_
        refine z_dup (fun _ => rfl) dX9_law_51 ?_
        refine zg_Model_113 rfl dX9_law_52 ?_
        refine z_top p1 ?_
        refine z_iconst dX9_law_55 ?_
        refine z_iadd dX9_law_56 ?_
        refine zp_Model_113 rfl (by first | omega | exact hR.1 _ _ (by decide) | exact zrng_toInt _) dX9_law_57 ?_
        refine z_withR (fun hR => ?_)
        have p1 := zmu_same (zmu (zmu M 38 (B 3 0) (a' : Int)) 39 (B 3 0) (b' : Int)) 9 4 ((B 3 0 : Int) + 1)
        refine zaload_3_0 dX9_law_60 ?_
        refine z_iconst dX9_law_61 ?_
        refine zp_Model_116 rfl (by first | omega | exact hR.1 _ _ (by decide) | exact zrng_toInt _) dX9_law_62 ?_
        refine z_withR (fun hR => ?_)
        refine zaload_3_0 dX9_law_65 ?_
        refine zg_Model_113 rfl dX9_law_66 ?_
        refine z_top p1 ?_
        refine z_iconst dX9_law_69 ?_
        refine z_isub dX9_law_70 ?_
        refine z_iret rfl ?_ dX9_law_71
        unfold fLaw gLaw
        rw [if_pos hin, Int.toNat_natCast, Int.toNat_natCast, if_pos ⟨hin, by omega⟩, if_neg (by omega)]
        refine ⟨by omega, (((zfr.rf.mu (by decide)).mu (by decide)).mu (by decide)).mu (by decide), abR.page (B' := bLaw B a' b') h ((((zfr.rf.mu (by decide)).mu (by decide)).mu (by decide)).mu (by decide)) (fun c h3 h4 h5 => by unfold bLaw bs; rw [if_neg h5, if_neg h4, if_neg h3]) (fun i h4 h7 => ?_) (zmu_same _ _ _ _) ⟨?_, ?_, fun l hl => ?_⟩⟩
        · rw [zmu_ne _ _ _ _ h7, zmu_ne _ _ _ _ h4, zmu_other _ _ _ _ (by decide), zmu_other _ _ _ _ (by decide)]
        · rw [zmu_ne _ _ _ _ (by decide), zmu_same]
          show (B 3 0 : Int) + 1 = ((B 3 0 + 1 : Nat) : Int)
          omega
        · show B 3 0 + 1 ≤ 6
          omega
        · have m38 : ∀ v w : Int, (zmu (zmu (zmu (zmu M 38 (B 3 0) a') 39 (B 3 0) b') 9 4 v) 9 7 w) 38 l = zmu M 38 (B 3 0) a' 38 l := fun v w => by rw [zmu_other _ _ _ _ (by decide), zmu_other _ _ _ _ (by decide), zmu_other _ _ _ _ (by decide)]
          have m39 : ∀ v w : Int, (zmu (zmu (zmu (zmu M 38 (B 3 0) a') 39 (B 3 0) b') 9 4 v) 9 7 w) 39 l = zmu (zmu M 38 (B 3 0) a') 39 (B 3 0) b' 39 l := fun v w => by rw [zmu_other _ _ _ _ (by decide), zmu_other _ _ _ _ (by decide)]
          have hl2 : l < B 3 0 + 1 := hl
          have e4 : bLaw B a' b' 4 = fup (B 4) (B 3 0) a' := rfl
          have e5 : bLaw B a' b' 5 = fup (B 5) (B 3 0) b' := rfl
          rw [m38, m39, e4, e5]
          by_cases e : l = B 3 0
          · rw [e, zmu_same, zmu_same, fup_s, fup_s]
            exact ⟨⟨rfl, rfl⟩, by omega⟩
          · rw [zmu_ne _ _ _ _ e, zmu_ne _ _ _ _ e, zmu_other _ _ _ _ (by decide), fup_n e, fup_n e]
            exact p3 l (by omega)
      · refine z_bipush dX9_law_27 (by decide) ?_
        refine z_iret rfl ?_ dX9_law_29
        unfold fLaw gLaw
        rw [if_pos hin, if_neg (fun z => z.2 (by omega)), if_pos (by omega)]
        exact ⟨rfl, zfr.rf, h⟩
    · have n16 := or_no q10 h13
      refine z_iconst dX9_law_16 ?_
      refine z_iret rfl ?_ dX9_law_17
      first
        | exact bad (fun z => n5 z.1)
        | exact bad (fun z => n16 z.2)
theorem sp_Model_unlaw (M : zMem) (B : Nat → Nat → Nat) (h : abR M B) : zSp zd_Model_unlaw 0 [zr 9] M (fun r M' => rOK M M' (gUn B) r (fUn B)) := by
  refine zSp_in 0 [some (zr 9)] rfl rfl (by decide +kernel) rfl ?_
  refine z_withR (fun hR => ?_)
  obtain ⟨p1, p2, p3⟩ := id h.1.2.2.2.1
  refine zaload_1_0 dX9_unlaw_0 ?_
  refine zg_Model_113 rfl dX9_unlaw_1 ?_
  refine z_top p1 ?_
  refine z_if_ne (tgt := 10) (by first | omega | exact hR.1 _ _ (by decide) | exact zrng_toInt _) dX9_unlaw_4 (by decide) (fun h4 => ?_) (fun h4 => ?_)
  · have h0 : ¬ B 3 0 = 0 := by omega
    refine zaload_1_0 dX9_unlaw_10 ?_
    refine z_dup (fun _ => rfl) dX9_unlaw_11 ?_
    refine zg_Model_113 rfl dX9_unlaw_12 ?_
    refine z_top p1 ?_
    refine z_iconst dX9_unlaw_15 ?_
    refine z_isub dX9_unlaw_16 ?_
    refine zp_Model_113 rfl (by first | omega | exact hR.1 _ _ (by decide) | exact zrng_toInt _) dX9_unlaw_17 ?_
    refine z_withR (fun hR => ?_)
    have p1 := zmu_same M 9 4 ((B 3 0 : Int) - 1)
    refine zaload_1_0 dX9_unlaw_20 ?_
    refine z_iconst dX9_unlaw_21 ?_
    refine zp_Model_116 rfl (by first | omega | exact hR.1 _ _ (by decide) | exact zrng_toInt _) dX9_unlaw_22 ?_
    refine z_withR (fun hR => ?_)
    refine zaload_1_0 dX9_unlaw_25 ?_
    refine zg_Model_113 rfl dX9_unlaw_26 ?_
    refine z_top p1 ?_
    refine z_iret rfl ?_ dX9_unlaw_29
    unfold fUn gUn
    rw [if_neg h0, if_neg h0]
    refine ⟨by omega, (zfr.rf.mu (by decide)).mu (by decide), abR.page (B' := bUn B) h ((zfr.rf.mu (by decide)).mu (by decide)) (fun c h3 h4 h5 => by unfold bUn bs; rw [if_neg h3]) (fun i h4 h7 => ?_) (zmu_same _ _ _ _) ⟨?_, ?_, fun l hl => ?_⟩⟩
    · rw [zmu_ne _ _ _ _ h7, zmu_ne _ _ _ _ h4]
    · rw [zmu_ne _ _ _ _ (by decide), zmu_same]
      show (B 3 0 : Int) - 1 = ((B 3 0 - 1 : Nat) : Int)
      omega
    · show B 3 0 - 1 ≤ 6
      omega
    · have hl2 : l < B 3 0 - 1 := hl
      have e4 : bUn B 4 = B 4 := rfl
      have e5 : bUn B 5 = B 5 := rfl
      rw [e4, e5]
      exact p3 l (by omega)
  · have h0 : B 3 0 = 0 := by omega
    refine z_bipush dX9_unlaw_7 (by decide) ?_
    refine z_iret rfl ?_ dX9_unlaw_9
    unfold fUn gUn
    rw [if_pos h0, if_pos h0]
    exact ⟨rfl, zfr.rf, h⟩
