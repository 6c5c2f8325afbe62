/-! from places to entries -/
theorem kp_lst {L R : Nat → Nat} {n k T a b : Nat} (hw : wfT L R T) (hn : okn n) (ha : a < T) (hb : b < T) : kp L R n (lst n k) a b = kp L R n k a b := by
  obtain ⟨r, hr, e⟩ := lst_is (n := n) (k := k) hn
  rw [e]
  exact kp_rho hw hn hr ha hb
def pE (p : Nat) : Nat := eI (pz p) (lst (pz p) (pq p))
theorem lst_cN {n k : Nat} (hn : okn n) : lst n k < cN n := by
  have := lst_lt (n := n) (k := k) hn
  rcases hn with h | h | h <;> subst h <;> exact this
theorem pE_ok (p : Nat) : pE p < 3341 ∧ eSz (pE p) = pz p ∧ eK (pE p) = lst (pz p) (pq p) := eI_ok (pz_ok p) (lst_cN (pz_ok p)) (lst_lst (pz_ok p))
theorem pE_kp {L R : Nat → Nat} {T a b p : Nat} (hw : wfT L R T) (ha : a < T) (hb : b < T) : kp L R (eSz (pE p)) (eK (pE p)) a b = kp L R (pz p) (pq p) a b := by
  obtain ⟨_, h2, h3⟩ := pE_ok p
  rw [h2, h3]
  exact kp_lst hw (pz_ok p) ha hb
theorem brN_bit {B : Nat → Nat → Nat} {p l : Nat} : (brN B p).testBit l = (decide (l < B 3 0) && !kp (B 1) (B 2) (pz p) (pq p) (B 4 l) (B 5 l)) := by
  unfold brN
  rw [bm_bit]
theorem need_at {B : Nat → Nat → Nat} {l bes st : Nat} (hw : wfT (B 1) (B 2) (B 0 0)) (hlw : ∀ l, l < B 3 0 → B 4 l < B 0 0 ∧ B 5 l < B 0 0) (hl : l < B 3 0) (hb : ∀ i, i < B 3 0 → bes.testBit i = (nAndn st (2 ^ l)).testBit i) : (∃ p, p < 19700 ∧ brN B p &&& bes = 0 ∧ (brN B p).testBit l = true) ↔ ndP B l st := by
  constructor
  · rintro ⟨p, hp, h1, h2⟩
    refine ⟨pE p, (pE_ok p).1, ?_, ?_⟩
    · unfold kS
      rw [decide_eq_true_iff]
      intro i hi hbi
      rw [pE_kp hw (hlw i hi).1 (hlw i hi).2]
      cases hz : kp (B 1) (B 2) (pz p) (pq p) (B 4 i) (B 5 i)
      · have h3 : (brN B p &&& bes).testBit i = true := by
          rw [Nat.testBit_and, brN_bit, hz, hb i hi, hbi]
          simp [hi]
        rw [h1, Nat.zero_testBit] at h3
        exact absurd h3 (by decide)
      · rfl
    · rw [Bool.eq_false_iff]
      intro hz
      unfold kS at hz
      rw [decide_eq_true_iff] at hz
      have h3 := hz l hl (by rw [Nat.testBit_two_pow]; simp)
      rw [pE_kp hw (hlw l hl).1 (hlw l hl).2] at h3
      rw [brN_bit, h3] at h2
      simp at h2
  · rintro ⟨e, he, h1, h2⟩
    obtain ⟨p1, p2, p3, _⟩ := pe_ok he
    unfold kS at h1
    rw [decide_eq_true_iff] at h1
    refine ⟨pe e, p1, ?_, ?_⟩
    · refine Nat.eq_of_testBit_eq (fun i => ?_)
      rw [Nat.testBit_and, Nat.zero_testBit, brN_bit, p2, p3]
      by_cases hi : i < B 3 0
      · rw [hb i hi]
        cases hz : (nAndn st (2 ^ l)).testBit i
        · simp
        · rw [h1 i hi hz]; simp
      · simp [hi]
    · rw [brN_bit, p2, p3]
      cases hz : kp (B 1) (B 2) (eSz e) (eK e) (B 4 l) (B 5 l)
      · simp [hl]
      · exfalso
        rw [Bool.eq_false_iff] at h2
        apply h2
        unfold kS
        rw [decide_eq_true_iff]
        intro i hi hbi
        rw [Nat.testBit_two_pow, decide_eq_true_iff] at hbi
        rw [← hbi]; exact hz
theorem sp_Model_isNeeded (M : zMem) (B : Nat → Nat → Nat) (l bes : Nat) (h : laid M B) (hP : B 3 0 ≤ 6) (hl : l < 6) (hbes : bes < 64) : zSp zd_Model_isNeeded 0 [zr 9, zi l, zi bes] M (fun r M' => M' = M ∧ ((r = 1 ∧ ∃ p, p < 19700 ∧ brN B p &&& bes = 0 ∧ (brN B p).testBit l = true) ∨ (r = 0 ∧ ¬ ∃ p, p < 19700 ∧ brN B p &&& bes = 0 ∧ (brN B p).testBit l = true))) := by
  refine zSp_in 1 [some (zr 9), some (zi l), some (zi bes), none] rfl rfl (by decide +kernel) rfl ?_
  refine z_withR (fun hR => ?_)
  obtain ⟨post, hpost⟩ : ∃ post : Int → zMem → Prop, post = (fun (r : Int) M' => M' = M ∧ ((r = 1 ∧ ∃ p, p < 19700 ∧ brN B p &&& bes = 0 ∧ (brN B p).testBit l = true) ∨ (r = 0 ∧ ¬ ∃ p, p < 19700 ∧ brN B p &&& bes = 0 ∧ (brN B p).testBit l = true))) := ⟨_, rfl⟩
  rw [← hpost]
  have loop : ∀ (c k : Nat), k + c = 19700 → (∀ p, p < k → ¬ (brN B p &&& bes = 0 ∧ (brN B p).testBit l = true)) → zV zd_Model_isNeeded 0 2 [some (zr 9), some (zi l), some (zi bes), some (zi k)] [] M post := by
    intro c
    induction c with
    | zero =>
      intro k hk hno
      refine ziload_4_3 dX9_isNeeded_2 ?_
      refine z_sipush dX9_isNeeded_3 (by decide) ?_
      refine z_icmp_ge (tgt := 42) (by first | omega | exact hR.1 _ _ (by decide) | exact zrng_toInt _) (by first | omega | exact hR.1 _ _ (by decide) | exact zrng_toInt _) dX9_isNeeded_6 (by decide) (fun h6 => ?_) (fun h6 => ?_)
      · refine z_iconst dX9_isNeeded_42 ?_
        refine z_zret rfl (by omega) ?_ dX9_isNeeded_43
        rw [hpost]
        exact ⟨rfl, Or.inr ⟨rfl, fun ⟨p, h1, h2⟩ => hno p (by omega) h2⟩⟩
      · omega
    | succ c ih =>
      intro k hk hno
      have hb := h.1 k (by omega)
      have hbl : brN B k < 2 ^ 6 := Nat.lt_of_lt_of_le (bm_lt _ _) (Nat.pow_le_pow_right (by decide) hP)
      obtain ⟨V, hV⟩ : ∃ V, V = brN B k := ⟨_, rfl⟩
      rw [← hV] at hb hbl
      have ha := zAnd_nat (a := V) (b := bes) (by omega)
      have hand : V &&& bes ≤ bes := Nat.and_le_right
      have hbt := z_bit (a := V) (l := l) (by omega) (by omega)
      have next : ¬ (V &&& bes = 0 ∧ V.testBit l = true) → zV zd_Model_isNeeded 0 2 [some (zr 9), some (zi l), some (zi bes), some (zi ((k : Int) + 1))] [] M post := by
        intro hz
        exact ih (k + 1) (by omega) (fun p hp => by
          by_cases e : p = k
          · rw [e, ← hV]; exact hz
          · exact hno p (by omega))
      refine ziload_4_3 dX9_isNeeded_2 ?_
      refine z_sipush dX9_isNeeded_3 (by decide) ?_
      refine z_icmp_ge (tgt := 42) (by first | omega | exact hR.1 _ _ (by decide) | exact zrng_toInt _) (by first | omega | exact hR.1 _ _ (by decide) | exact zrng_toInt _) dX9_isNeeded_6 (by decide) (fun h6 => ?_) (fun h6 => ?_)
      · omega
      · refine zaload_4_0 dX9_isNeeded_9 ?_
        refine zg_Model_39 rfl dX9_isNeeded_10 ?_
        refine ziload_4_3 dX9_isNeeded_13 ?_
        refine z_iald _ rfl (by decide) (by decide) rfl (by omega) dX9_isNeeded_14 ?_
        refine z_top hb ?_
        refine ziload_4_2 dX9_isNeeded_15 ?_
        refine z_iand dX9_isNeeded_16 ?_
        refine z_top ha ?_
        refine z_if_ne (tgt := 36) (by first | omega | exact hR.1 _ _ (by decide) | exact zrng_toInt _) dX9_isNeeded_17 (by decide) (fun h17 => ?_) (fun h17 => ?_)
        · have hz : ¬ (V &&& bes = 0 ∧ V.testBit l = true) := fun z => h17 (by rw [z.1]; rfl)
          refine ziinc_4_3 dX9_isNeeded_36 ?_
          refine z_goto (tgt := 2) dX9_isNeeded_39 (by decide) ?_
          exact next hz
        · have h0 : V &&& bes = 0 := by omega
          refine zaload_4_0 dX9_isNeeded_20 ?_
          refine zg_Model_39 rfl dX9_isNeeded_21 ?_
          refine ziload_4_3 dX9_isNeeded_24 ?_
          refine z_iald _ rfl (by decide) (by decide) rfl (by omega) dX9_isNeeded_25 ?_
          refine z_top hb ?_
          refine ziload_4_1 dX9_isNeeded_26 ?_
          refine z_ishr dX9_isNeeded_27 ?_
          refine z_iconst dX9_isNeeded_28 ?_
          refine z_iand dX9_isNeeded_29 ?_
          refine z_top hbt ?_
          refine z_iconst dX9_isNeeded_30 ?_
          refine z_icmp_ne (tgt := 36) (by split <;> decide) (by first | omega | exact hR.1 _ _ (by decide) | exact zrng_toInt _) dX9_isNeeded_31 (by decide) (fun h31 => ?_) (fun h31 => ?_)
          · have hz : ¬ (V &&& bes = 0 ∧ V.testBit l = true) := fun z => h31 (by rw [z.2]; rfl)
            refine ziinc_4_3 dX9_isNeeded_36 ?_
            refine z_goto (tgt := 2) dX9_isNeeded_39 (by decide) ?_
            exact next hz
          · have h1 : V.testBit l = true := by
              cases hz : V.testBit l
              · rw [hz] at h31; exact absurd h31 (by decide)
              · rfl
            refine z_iconst dX9_isNeeded_34 ?_
            refine z_zret rfl (by omega) ?_ dX9_isNeeded_35
            rw [hpost]
            exact ⟨rfl, Or.inl ⟨rfl, k, by omega, by rw [← hV]; exact h0, by rw [← hV]; exact h1⟩⟩
  refine z_iconst dX9_isNeeded_0 ?_
  refine zistore_4_3 dX9_isNeeded_1 ?_
  exact loop 19700 0 (by omega) (fun p h => absurd h (Nat.not_lt_zero _))
theorem abR.lw {M : zMem} {B : Nat → Nat → Nat} (h : abR M B) : ∀ l, l < B 3 0 → B 4 l < B 0 0 ∧ B 5 l < B 0 0 := fun l hl => (h.1.2.2.2.1.2.2 l hl).2
theorem p64 {i : Nat} (hi : i < 6) : (63 : Nat).testBit i = true := by
  rcases (show i = 0 ∨ i = 1 ∨ i = 2 ∨ i = 3 ∨ i = 4 ∨ i = 5 by omega) with rfl | rfl | rfl | rfl | rfl | rfl <;> decide
theorem sp_Model_needed (M : zMem) (B : Nat → Nat → Nat) (l : Int) (hl : zrng l) (h : abR M B) : zSp zd_Model_needed 4 [zr 9, zi l] M (fun r M' => rOK M M' B r (fNeed B l)) := by
  refine zSp_in 0 [some (zr 9), some (zi l)] rfl rfl (by decide +kernel) rfl ?_
  refine z_withR (fun hR => ?_)
  have hP6 := h.1.2.2.2.1.2.1
  have hp := h.1.2.2.2.1.1
  refine ziload_2_1 dX9_needed_0 ?_
  refine z_i2l (by first | omega | exact hR.1 _ _ (by decide) | exact zrng_toInt _) dX9_needed_1 ?_
  refine z_lconst 0 dX9_needed_2 rfl ?_
  refine zaload_2_0 dX9_needed_3 ?_
  refine zg_Model_113 rfl dX9_needed_4 ?_
  refine z_top hp ?_
  refine z_iconst dX9_needed_7 ?_
  refine z_isub dX9_needed_8 ?_
  refine z_i2l (by first | omega | exact hR.1 _ _ (by decide) | exact zrng_toInt _) dX9_needed_9 ?_
  refine zc_Model_105 rfl dX9_needed_10 (by decide) (Nat.le_of_ble_eq_true rfl) (sp_Model_in M l 0 ((B 3 0 : Int) - 1) hl (by decide) (by unfold zrng; omega)) (fun r10 M10 hq10 => ?_)
  refine z_withR (fun hR => ?_)
  have e10 := hq10.1.symm
  subst e10
  have q10 := hq10.2
  have q10 := or_if q10
  refine z_if_ne (tgt := 18) (or_rng q10) dX9_needed_13 (by decide) (fun h13 => ?_) (fun h13 => ?_)
  · have y0 := or_yes q10 h13
    obtain ⟨l', rfl⟩ : ∃ l' : Nat, l = l' := ⟨l.toNat, by omega⟩
    have hin : inR (l' : Int) (B 3 0) := ⟨by omega, by omega⟩
    have hl' : l' < B 3 0 := by omega
    refine zaload_2_0 dX9_needed_18 ?_
    refine zc_Model_175 rfl dX9_needed_19 (by decide) (Nat.le_of_ble_eq_true rfl) (sp_Model_layAll M B h.1.1 h.1.2.2.2.1 h.cache) (fun r19 M19 hq19 => ?_)
    refine z_withR (fun hR => ?_)
    obtain ⟨f12, g12, i12, l12, c12⟩ := hq19
    have hab := h.after f12 g12 i12 l12 c12
    have hle := nAndn_le 63 (2 ^ l')
    refine zaload_2_0 dX9_needed_22 ?_
    refine ziload_2_1 dX9_needed_23 ?_
    refine z_bipush dX9_needed_24 (by decide) ?_
    refine z_iconst dX9_needed_26 ?_
    refine ziload_2_1 dX9_needed_27 ?_
    refine z_ishl dX9_needed_28 ?_
    refine z_top (zShl_one (by omega)) ?_
    refine z_iconst dX9_needed_29 ?_
    refine z_ixor dX9_needed_30 ?_
    refine z_iand dX9_needed_31 ?_
    refine z_top (zAndn (c := 63) (by omega)) ?_
    refine zc_Model_246 rfl dX9_needed_32 (by decide) (Nat.le_of_ble_eq_true rfl) (sp_Model_isNeeded M19 B l' (nAndn 63 (2 ^ l')) l12 hP6 (by omega) (by omega)) (fun r32 M32 hq32 => ?_)
    refine z_withR (fun hR => ?_)
    have e32 := hq32.1.symm
    subst e32
    have q32 := hq32.2
    rw [need_at (st := 2 ^ B 3 0 - 1) h.1.1.2.2.2.1 h.lw hl' (fun i hi => by rw [nAndn_bit, nAndn_bit, p64 (by omega), Nat.testBit_two_pow_sub_one]; simp [hi])] at q32
    refine z_if_eq (tgt := 42) (or_rng q32) dX9_needed_35 (by decide) (fun h35 => ?_) (fun h35 => ?_)
    · have y := or_no q32 h35
      refine z_iconst dX9_needed_42 ?_
      refine z_iret rfl ?_ dX9_needed_43
      refine ⟨?_, f12.up (by decide), hab⟩
      unfold fNeed
      rw [if_pos hin, Int.toNat_natCast]
      first
        | rw [if_pos y]
        | rw [if_neg y]
    · have y := or_yes q32 h35
      refine z_iconst dX9_needed_38 ?_
      refine z_goto (tgt := 43) dX9_needed_39 (by decide) ?_
      refine z_iret rfl ?_ dX9_needed_43
      refine ⟨?_, f12.up (by decide), hab⟩
      unfold fNeed
      rw [if_pos hin, Int.toNat_natCast]
      first
        | rw [if_pos y]
        | rw [if_neg y]
  · have y0 := or_no q10 h13
    refine z_iconst dX9_needed_16 ?_
    refine z_iret rfl ?_ dX9_needed_17
    unfold fNeed
    rw [if_neg (fun z => y0 ⟨z.1, by have := z.2; omega⟩)]
    exact ⟨rfl, zfr.rf, h⟩
theorem sp_Model_least (M : zMem) (B : Nat → Nat → Nat) (h : abR M B) : zSp zd_Model_least 4 [zr 9] M (fun r M' => rOK M M' B r (lsF B (B 3 0) : Nat)) := by
  refine zSp_in 2 [some (zr 9), none, none] rfl rfl (by decide +kernel) rfl ?_
  refine z_withR (fun hR => ?_)
  have hP6 := h.1.2.2.2.1.2.1
  have hls := p2_lt hP6
  obtain ⟨post, hpost⟩ : ∃ post : Int → zMem → Prop, post = (fun (r : Int) M' => rOK M M' B r (lsF B (B 3 0) : Nat)) := ⟨_, rfl⟩
  rw [← hpost]
  have lp : ∀ (M1 : zMem), laid M1 B → (∀ r : Int, r = (lsF B (B 3 0) : Nat) → post r M1) → ∀ (d c : Nat), c + d = B 3 0 → zV zd_Model_least 4 20 [some (zr 9), some (zi (lsF B c : Nat)), some (zi ((d : Int) - 1))] [] M1 post := by
    intro M1 k1 done d
    induction d with
    | zero =>
      intro c hc
      have hle := lsF_le (B := B) c
      refine z_withR (fun hR => ?_)
      refine ziload_3_2 dX9_least_20 ?_
      refine z_if_lt (tgt := 57) (by first | omega | exact hR.1 _ _ (by decide) | exact zrng_toInt _) dX9_least_21 (by decide) (fun h21 => ?_) (fun h21 => ?_)
      · refine ziload_3_1 dX9_least_57 ?_
        refine z_iret rfl ?_ dX9_least_58
        exact done _ (by rw [show c = B 3 0 by omega])
      · omega
    | succ d ih =>
      intro c hc
      have hle := lsF_le (B := B) c
      have hst : lsF B (c + 1) = @ite _ (ndP B (B 3 0 - 1 - c) (lsF B c)) (Classical.propDecidable _) (lsF B c) (nAndn (lsF B c) (2 ^ (B 3 0 - 1 - c))) := rfl
      have ed : B 3 0 - 1 - c = d := by omega
      rw [ed] at hst
      have k := ih (c + 1) (by omega)
      have hnl := nAndn_le (lsF B c) (2 ^ d)
      rw [show (((d + 1 : Nat) : Int) - 1) = (d : Int) by omega]
      refine z_withR (fun hR => ?_)
      refine ziload_3_2 dX9_least_20 ?_
      refine z_if_lt (tgt := 57) (by first | omega | exact hR.1 _ _ (by decide) | exact zrng_toInt _) dX9_least_21 (by decide) (fun h21 => ?_) (fun h21 => ?_)
      · omega
      · refine zaload_3_0 dX9_least_24 ?_
        refine ziload_3_2 dX9_least_25 ?_
        refine ziload_3_1 dX9_least_26 ?_
        refine z_iconst dX9_least_27 ?_
        refine ziload_3_2 dX9_least_28 ?_
        refine z_ishl dX9_least_29 ?_
        refine z_top (zShl_one (by omega)) ?_
        refine z_iconst dX9_least_30 ?_
        refine z_ixor dX9_least_31 ?_
        refine z_iand dX9_least_32 ?_
        refine z_top (zAndn (by omega)) ?_
        refine zc_Model_246 rfl dX9_least_33 (by decide) (Nat.le_of_ble_eq_true rfl) (sp_Model_isNeeded M1 B d (nAndn (lsF B c) (2 ^ d)) k1 hP6 (by omega) (by omega)) (fun r33 M33 hq33 => ?_)
        refine z_withR (fun hR => ?_)
        have e33 := hq33.1.symm
        subst e33
        have q33 := hq33.2
        rw [need_at (st := lsF B c) h.1.1.2.2.2.1 h.lw (by omega) (fun i hi => rfl)] at q33
        refine z_if_eq (tgt := 43) (or_rng q33) dX9_least_36 (by decide) (fun h36 => ?_) (fun h36 => ?_)
        · have y := or_no q33 h36
          rw [hst, if_neg y] at k
          refine ziload_3_1 dX9_least_43 ?_
          refine z_iconst dX9_least_44 ?_
          refine ziload_3_2 dX9_least_45 ?_
          refine z_ishl dX9_least_46 ?_
          refine z_top (zShl_one (by omega)) ?_
          refine z_iconst dX9_least_47 ?_
          refine z_ixor dX9_least_48 ?_
          refine z_iand dX9_least_49 ?_
          refine z_top (zAndn (by omega)) ?_
          refine zistore_3_1 dX9_least_50 ?_
          refine ziinc_3_2 dX9_least_51 ?_
          rw [show (d : Int) + -1 = (d : Int) - 1 by omega]
          refine z_goto (tgt := 20) dX9_least_54 (by decide) ?_
          exact k
        · have y := or_yes q33 h36
          rw [hst, if_pos y] at k
          refine ziload_3_1 dX9_least_39 ?_
          refine z_goto (tgt := 50) dX9_least_40 (by decide) ?_
          refine zistore_3_1 dX9_least_50 ?_
          refine ziinc_3_2 dX9_least_51 ?_
          rw [show (d : Int) + -1 = (d : Int) - 1 by omega]
          refine z_goto (tgt := 20) dX9_least_54 (by decide) ?_
          exact k
  refine zaload_3_0 dX9_least_0 ?_
  refine zc_Model_175 rfl dX9_least_1 (by decide) (Nat.le_of_ble_eq_true rfl) (sp_Model_layAll M B h.1.1 h.1.2.2.2.1 h.cache) (fun r1 M1 hq1 => ?_)
  refine z_withR (fun hR => ?_)
  obtain ⟨f12, g12, i12, l12, c12⟩ := hq1
  have hab := h.after f12 g12 i12 l12 c12
  have hp := hab.1.2.2.2.1.1
  have pw : 1 ≤ 2 ^ B 3 0 := Nat.one_le_two_pow
  refine z_iconst dX9_least_4 ?_
  refine zaload_3_0 dX9_least_5 ?_
  refine zg_Model_113 rfl dX9_least_6 ?_
  refine z_top hp ?_
  refine z_ishl dX9_least_9 ?_
  refine z_top (zShl_one (by omega)) ?_
  refine z_iconst dX9_least_10 ?_
  refine z_isub dX9_least_11 ?_
  refine z_top (y := ((2 ^ B 3 0 - 1 : Nat) : Int)) (by omega) ?_
  refine zistore_3_1 dX9_least_12 ?_
  refine zaload_3_0 dX9_least_13 ?_
  refine zg_Model_113 rfl dX9_least_14 ?_
  refine z_iconst dX9_least_17 ?_
  skip
  refine z_isub dX9_least_18 ?_
  refine z_top (y := (B 3 0 : Int) - 1) (by rw [hp]) ?_
  refine zistore_3_2 dX9_least_19 ?_
  exact lp M1 l12 (fun r hr => by rw [hpost]; exact ⟨hr, f12.up (by decide), hab⟩) (B 3 0) 0 (by omega)
