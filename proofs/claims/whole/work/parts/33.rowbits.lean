/-- what a way makes of rows of yeses -/
def mkR (w n : Nat) (f g : Nat → Bool) (j : Nat) : Bool := match w with
  | 1 => !f j
  | 2 => f j && g j
  | 3 => decide (∀ z, z < n → f (j / n * n + z) = true)
  | 4 => decide (∃ z, z < n ∧ f (j / n * n + z) = true)
  | 5 => f (j % n * n + j / n)
  | _ => f (j / n * n + j / n)
theorem pw9 {n j : Nat} (hn : okn n) (hj : j ≤ n * n) : 2 ^ j ≤ 512 := by
  have := (sq_le hn).1
  exact Nat.le_trans (Nat.pow_le_pow_right (by decide) (show j ≤ 9 by omega)) (by decide)
theorem bm9 {n : Nat} (hn : okn n) (f : Nat → Bool) {j : Nat} (hj : j ≤ n * n) : bm f j < 512 := Nat.lt_of_lt_of_le (bm_lt f j) (pw9 hn hj)
theorem bm_full (m : Nat) : bm (fun _ => true) m = 2 ^ m - 1 := by
  induction m with
  | zero => rfl
  | succ m ih =>
    rw [bm, ih, if_pos rfl, Nat.pow_succ]
    have := Nat.one_le_two_pow (n := m)
    omega
theorem sp_Bits_whole (M : zMem) (n : Nat) (hn : okn n) : zSp zd_Bits_whole 0 [zi n] M (fun r M' => M' = M ∧ r = ((2 ^ (n * n) - 1 : Nat) : Int)) := by
  refine zSp_in 0 [some (zi n)] rfl rfl (by decide +kernel) rfl ?_
  refine z_withR (fun hR => ?_)
  have hq := sq_le hn
  refine z_iconst dX0_whole_0 ?_
  refine ziload_1_0 dX0_whole_1 ?_
  refine ziload_1_0 dX0_whole_2 ?_
  refine z_imul dX0_whole_3 ?_
  refine z_top (y := ((n * n : Nat) : Int)) (by omega) ?_
  refine z_ishl dX0_whole_4 ?_
  refine z_top (zShl_one (by omega)) ?_
  refine z_iconst dX0_whole_5 ?_
  refine z_isub dX0_whole_6 ?_
  refine z_iret rfl ?_ dX0_whole_7
  refine ⟨rfl, ?_⟩
  have := Nat.one_le_two_pow (n := n * n)
  omega
theorem bm_bit' {n : Nat} (f : Nat → Bool) {m i : Nat} (hi : i < m) : (bm f m).testBit i = f i := by rw [bm_bit]; simp [hi]
theorem sp_Bits_turnedAbout (M : zMem) (n : Nat) (f : Nat → Bool) (hn : okn n) : zSp zd_Bits_turnedAbout 0 [zi n, zi (bm f (n * n))] M (fun r M' => M' = M ∧ r = bm (mkR 5 n f f) (n * n)) := by
  refine zSp_in 3 [some (zi n), some (zi (bm f (n * n))), none, none, none] rfl rfl (by decide +kernel) rfl ?_
  refine z_withR (fun hR => ?_)
  have hn3 := hn.le
  have hn0 := hn.pos
  have hq := sq_le hn
  have hb9 := bm9 hn f (Nat.le_refl (n * n))
  have inner : ∀ (x : Nat), x < n → zV zd_Bits_turnedAbout 0 44 [some (zi n), some (zi (bm f (n * n))), some (zi (bm (mkR 5 n f f) (x * n + n))), some (zi x), some (zi n)] [] M (fun r M' => M' = M ∧ r = bm (mkR 5 n f f) (n * n)) →
      ∀ (q y : Nat), y + q = n → zV zd_Bits_turnedAbout 0 12 [some (zi n), some (zi (bm f (n * n))), some (zi (bm (mkR 5 n f f) (x * n + y))), some (zi x), some (zi y)] [] M (fun r M' => M' = M ∧ r = bm (mkR 5 n f f) (n * n)) := by
    intro x hx kk q
    induction q with
    | zero =>
      intro y hy
      refine ziload_5_4 dX0_turnedAbout_12 ?_
      refine ziload_5_0 dX0_turnedAbout_14 ?_
      refine z_icmp_ge (tgt := 44) (by first | omega | exact hR.1 _ _ (by decide) | exact zrng_toInt _) (by first | omega | exact hR.1 _ _ (by decide) | exact zrng_toInt _) dX0_turnedAbout_15 (by decide) (fun h15 => ?_) (fun h15 => ?_)
      · rw [show y = n by omega]
        exact kk
      · omega
    | succ q ih =>
      intro y hy
      have hp := pair_lt hx (show y < n by omega)
      have hp2 := pair_lt (show y < n by omega) hx
      have hbb := bm9 hn (mkR 5 n f f) (show x * n + y ≤ n * n by omega)
      have hpw : 2 ^ (x * n + y) ≤ 512 := pw9 hn (by omega)
      have hbit : zAnd (zShr (bm f (n * n)) ((y * n + x : Nat) : Int)) 1 = if f (y * n + x) then 1 else 0 := by
        rw [z_bit (by omega) (by omega), bm_bit' (n := n) f hp2]
      have hmk : mkR 5 n f f (x * n + y) = f (y * n + x) := by
        show f ((x * n + y) % n * n + (x * n + y) / n) = _
        rw [pair_mod (by omega), pair_div (by omega)]
      have hnext : bm (mkR 5 n f f) (x * n + (y + 1)) = if f (y * n + x) then bm (mkR 5 n f f) (x * n + y) ||| 2 ^ (x * n + y) else bm (mkR 5 n f f) (x * n + y) := by
        rw [← Nat.add_assoc]
        cases hfe : f (y * n + x) with
        | true => rw [if_pos rfl]; exact (bm_or _ (by rw [hmk, hfe])).symm
        | false => rw [if_neg (by decide)]; exact bm_skip _ (by rw [hmk, hfe])
      have hval : zOr (bm (mkR 5 n f f) (x * n + y)) (zShl (if f (y * n + x) then 1 else 0) ((x * n + y : Nat) : Int)) = bm (mkR 5 n f f) (x * n + (y + 1)) := by
        rw [hnext]
        cases f (y * n + x) with
        | true =>
          simp only [if_true]
          rw [zShl_one (by omega), zOr_nat (by omega) (by omega)]
        | false =>
          simp only [Bool.false_eq_true, if_false]
          have h0 := zShl_nat (a := 0) (s := x * n + y) (by omega) (by omega)
          rw [Nat.zero_mul] at h0
          rw [show ((0 : Nat) : Int) = 0 from rfl] at h0
          rw [h0]
          have := zOr_nat (a := bm (mkR 5 n f f) (x * n + y)) (b := 0) (by omega) (by omega)
          rw [Nat.or_zero] at this
          exact this
      refine ziload_5_4 dX0_turnedAbout_12 ?_
      refine ziload_5_0 dX0_turnedAbout_14 ?_
      refine z_icmp_ge (tgt := 44) (by first | omega | exact hR.1 _ _ (by decide) | exact zrng_toInt _) (by first | omega | exact hR.1 _ _ (by decide) | exact zrng_toInt _) dX0_turnedAbout_15 (by decide) (fun h15 => ?_) (fun h15 => ?_)
      · omega
      · refine ziload_5_2 dX0_turnedAbout_18 ?_
        refine ziload_5_1 dX0_turnedAbout_19 ?_
        refine ziload_5_4 dX0_turnedAbout_20 ?_
        refine ziload_5_0 dX0_turnedAbout_22 ?_
        refine z_imul dX0_turnedAbout_23 ?_
        refine ziload_5_3 dX0_turnedAbout_24 ?_
        refine z_iadd dX0_turnedAbout_25 ?_
        refine z_top (y := ((y * n + x : Nat) : Int)) (by omega) ?_
        refine z_ishr dX0_turnedAbout_26 ?_
        refine z_iconst dX0_turnedAbout_27 ?_
        refine z_iand dX0_turnedAbout_28 ?_
        refine z_top hbit ?_
        refine ziload_5_3 dX0_turnedAbout_29 ?_
        refine ziload_5_0 dX0_turnedAbout_30 ?_
        refine z_imul dX0_turnedAbout_31 ?_
        refine ziload_5_4 dX0_turnedAbout_32 ?_
        refine z_iadd dX0_turnedAbout_34 ?_
        refine z_top (y := ((x * n + y : Nat) : Int)) (by omega) ?_
        refine z_ishl dX0_turnedAbout_35 ?_
        refine z_ior dX0_turnedAbout_36 ?_
        refine z_top hval ?_
        refine zistore_5_2 dX0_turnedAbout_37 ?_
        refine ziinc_5_4 dX0_turnedAbout_38 ?_
        refine z_goto (tgt := 12) dX0_turnedAbout_41 (by decide) ?_
        exact ih (y + 1) (by omega)
  have outer : ∀ (q x : Nat) (g : Option zAV), x + q = n → zV zd_Bits_turnedAbout 0 4 [some (zi n), some (zi (bm f (n * n))), some (zi (bm (mkR 5 n f f) (x * n))), some (zi x), g] [] M (fun r M' => M' = M ∧ r = bm (mkR 5 n f f) (n * n)) := by
    intro q
    induction q with
    | zero =>
      intro x g hx
      refine ziload_5_3 dX0_turnedAbout_4 ?_
      refine ziload_5_0 dX0_turnedAbout_5 ?_
      refine z_icmp_ge (tgt := 50) (by first | omega | exact hR.1 _ _ (by decide) | exact zrng_toInt _) (by first | omega | exact hR.1 _ _ (by decide) | exact zrng_toInt _) dX0_turnedAbout_6 (by decide) (fun h6 => ?_) (fun h6 => ?_)
      · refine ziload_5_2 dX0_turnedAbout_50 ?_
        refine z_iret rfl ?_ dX0_turnedAbout_51
        exact ⟨rfl, by rw [show x = n by omega]⟩
      · omega
    | succ q ih =>
      intro x g hx
      have k44 : zV zd_Bits_turnedAbout 0 44 [some (zi n), some (zi (bm f (n * n))), some (zi (bm (mkR 5 n f f) (x * n + n))), some (zi x), some (zi n)] [] M (fun r M' => M' = M ∧ r = bm (mkR 5 n f f) (n * n)) := by
        refine ziinc_5_3 dX0_turnedAbout_44 ?_
        refine z_goto (tgt := 4) dX0_turnedAbout_47 (by decide) ?_
        have := ih (x + 1) (some (zi n)) (by omega)
        rw [Nat.succ_mul] at this
        exact this
      refine ziload_5_3 dX0_turnedAbout_4 ?_
      refine ziload_5_0 dX0_turnedAbout_5 ?_
      refine z_icmp_ge (tgt := 50) (by first | omega | exact hR.1 _ _ (by decide) | exact zrng_toInt _) (by first | omega | exact hR.1 _ _ (by decide) | exact zrng_toInt _) dX0_turnedAbout_6 (by decide) (fun h6 => ?_) (fun h6 => ?_)
      · omega
      · refine z_iconst dX0_turnedAbout_9 ?_
        refine zistore_5_4 dX0_turnedAbout_10 ?_
        exact inner x (by omega) k44 n 0 (by omega)
  refine z_iconst dX0_turnedAbout_0 ?_
  refine zistore_5_2 dX0_turnedAbout_1 ?_
  refine z_iconst dX0_turnedAbout_2 ?_
  refine zistore_5_3 dX0_turnedAbout_3 ?_
  have := outer n 0 none (by omega)
  rw [Nat.zero_mul] at this
  exact this
/-- a line of a row -/
theorem bm_line (f : Nat → Bool) {n x : Nat} (hx : x < n) : (bm f (n * n) / 2 ^ (x * n)) &&& (2 ^ n - 1) = bm (fun z => f (x * n + z)) n := by
  apply Nat.eq_of_testBit_eq
  intro i
  rw [Nat.testBit_and, Nat.testBit_two_pow_sub_one, bm_bit, ← Nat.shiftRight_eq_div_pow, Nat.testBit_shiftRight, bm_bit]
  by_cases hi : i < n
  · have := pair_lt hx hi
    simp [hi, this]
  · simp [hi]
theorem bm_eq_full (f : Nat → Bool) (m : Nat) : bm f m = 2 ^ m - 1 ↔ ∀ z, z < m → f z = true := by
  constructor
  · intro h z hz
    have := congrArg (fun q => q.testBit z) h
    simp only [bm_bit, Nat.testBit_two_pow_sub_one, hz, decide_true, Bool.true_and] at this
    exact this
  · intro h
    rw [← bm_full, bm_congr h]
theorem bm_eq_zero (f : Nat → Bool) (m : Nat) : bm f m = 0 ↔ ¬ ∃ z, z < m ∧ f z = true := by
  constructor
  · rintro h ⟨z, hz, hf⟩
    have := congrArg (fun q => q.testBit z) h
    simp only [bm_bit, hz, decide_true, Bool.true_and, hf, Nat.zero_testBit] at this
    cases this
  · intro h
    have : ∀ z, z < m → f z = false := fun z hz => by
      cases hf : f z
      · rfl
      · exact absurd ⟨z, hz, hf⟩ h
    rw [bm_congr (g := fun _ => false) this]
    have h0 : ∀ m, bm (fun _ => false) m = 0 := by
      intro m
      induction m with
      | zero => rfl
      | succ m ih => rw [bm, ih]; rfl
    exact h0 m
/-- a whole line more, all yes or all no -/
theorem bm_addline (h : Nat → Bool) {n x : Nat} (b : Bool) (hc : ∀ z, z < n → h (x * n + z) = b) : bm h (x * n + n) = if b then bm h (x * n) ||| (2 ^ n - 1) * 2 ^ (x * n) else bm h (x * n) := by
  cases b with
  | false =>
    simp only [Bool.false_eq_true, if_false]
    have : ∀ m, m ≤ n → bm h (x * n + m) = bm h (x * n) := by
      intro m
      induction m with
      | zero => intro _; rfl
      | succ m ih => intro hm; rw [← Nat.add_assoc, bm_skip h (hc m (by omega)), ih (by omega)]
    exact this n (Nat.le_refl _)
  | true =>
    simp only [if_true]
    apply Nat.eq_of_testBit_eq
    intro i
    rw [bm_bit, Nat.testBit_or, bm_bit, ← Nat.shiftLeft_eq, Nat.testBit_shiftLeft, Nat.testBit_two_pow_sub_one]
    by_cases h1 : i < x * n
    · have h2 : i < x * n + n := by omega
      have h3 : ¬ (i ≥ x * n) := by omega
      simp [h1, h2, h3]
    · by_cases h2 : i < x * n + n
      · have h3 : i ≥ x * n := by omega
        have h4 : i - x * n < n := by omega
        have h5 := hc (i - x * n) h4
        rw [show x * n + (i - x * n) = i by omega] at h5
        simp [h1, h2, h3, h4, h5]
      · have h4 : ¬ (i - x * n < n) := by omega
        simp [h1, h2, h4]
theorem sp_Bits_byLines (M : zMem) (w n : Nat) (f : Nat → Bool) (hn : okn n) (hw : w = 3 ∨ w = 4 ∨ w = 6) : zSp zd_Bits_byLines 0 [zi w, zi n, zi (bm f (n * n))] M (fun r M' => M' = M ∧ r = bm (mkR w n f f) (n * n)) := by
  refine zSp_in 5 [some (zi w), some (zi n), some (zi (bm f (n * n))), none, none, none, none, none] rfl rfl (by decide +kernel) rfl ?_
  refine z_withR (fun hR => ?_)
  have hn3 := hn.le
  have hn0 := hn.pos
  have hq := sq_le hn
  have hb9 := bm9 hn f (Nat.le_refl (n * n))
  have hpn : 2 ^ n ≤ 8 := Nat.le_trans (Nat.pow_le_pow_right (by decide) hn3) (by decide)
  have hpn1 := Nat.one_le_two_pow (n := n)
  have loop : ∀ (q x : Nat) (g6 g7 : Option zAV), x + q = n → zV zd_Bits_byLines 0 12 [some (zi w), some (zi n), some (zi (bm f (n * n))), some (zi ((2 ^ n - 1 : Nat) : Int)), some (zi (bm (mkR w n f f) (x * n))), some (zi x), g6, g7] [] M (fun r M' => M' = M ∧ r = bm (mkR w n f f) (n * n)) := by
    intro q
    induction q with
    | zero =>
      intro x g6 g7 hx
      refine ziload_8_5 dX0_byLines_12 ?_
      refine ziload_8_1 dX0_byLines_14 ?_
      refine z_icmp_ge (tgt := 104) (by first | omega | exact hR.1 _ _ (by decide) | exact zrng_toInt _) (by first | omega | exact hR.1 _ _ (by decide) | exact zrng_toInt _) dX0_byLines_15 (by decide) (fun h15 => ?_) (fun h15 => ?_)
      · refine ziload_8_4 dX0_byLines_104 ?_
        refine z_iret rfl ?_ dX0_byLines_106
        exact ⟨rfl, by rw [show x = n by omega]⟩
      · omega
    | succ q ih =>
      intro x g6 g7 hx
      have hxn : x < n := by omega
      have hxx := pair_lt hxn (show 0 < n by omega)
      have hxx2 : x * n + n ≤ n * n := by have := pair_lt hxn (show n - 1 < n by omega); omega
      have hbb := bm9 hn (mkR w n f f) (show x * n ≤ n * n by omega)
      have hpx : 2 ^ (x * n) * 2 ^ n ≤ 512 := by rw [← Nat.pow_add]; exact pw9 hn hxx2
      have hpx1 := Nat.one_le_two_pow (n := x * n)
      have hline : zAnd (zShr (bm f (n * n)) ((x * n : Nat) : Int)) ((2 ^ n - 1 : Nat) : Int) = bm (fun z => f (x * n + z)) n := by
        rw [zShr_nat (by omega) (by omega), zAnd_nat' (by omega), bm_line f hxn]
      have hll := bm_lt (fun z => f (x * n + z)) n
      have k80 : ∀ b : Bool, (∀ z, z < n → mkR w n f f (x * n + z) = b) → zV zd_Bits_byLines 0 80 [some (zi w), some (zi n), some (zi (bm f (n * n))), some (zi ((2 ^ n - 1 : Nat) : Int)), some (zi (bm (mkR w n f f) (x * n))), some (zi x), some (zi (bm (fun z => f (x * n + z)) n)), g7] [zi (if b then 1 else 0)] M (fun r M' => M' = M ∧ r = bm (mkR w n f f) (n * n)) := by
        intro b hb
        have hadd := bm_addline (mkR w n f f) b hb
        have hmul : (2 ^ n - 1) * 2 ^ (x * n) < 512 := by
          have : (2 ^ n - 1) * 2 ^ (x * n) = 2 ^ (x * n) * 2 ^ n - 2 ^ (x * n) := by rw [Nat.sub_mul, Nat.one_mul, Nat.mul_comm]
          omega
        refine zistore_8_7 dX0_byLines_80 ?_
        refine ziload_8_7 dX0_byLines_82 ?_
        refine z_if_eq (tgt := 98) (by split <;> omega) dX0_byLines_84 (by decide) (fun h84 => ?_) (fun h84 => ?_)
        · have hbf : b = false := by revert h84; cases b <;> simp
          rw [hbf] at hadd
          refine ziinc_8_5 dX0_byLines_98 ?_
          refine z_goto (tgt := 12) dX0_byLines_101 (by decide) ?_
          have h9 := ih (x + 1) (some (zi (bm (fun z => f (x * n + z)) n))) (some (zi (if b then 1 else 0))) (by omega)
          rw [Nat.succ_mul, hadd] at h9
          exact h9
        · have hbt : b = true := by revert h84; cases b <;> simp
          rw [hbt] at hadd
          refine ziload_8_4 dX0_byLines_87 ?_
          refine ziload_8_3 dX0_byLines_89 ?_
          refine ziload_8_5 dX0_byLines_90 ?_
          refine ziload_8_1 dX0_byLines_92 ?_
          refine z_imul dX0_byLines_93 ?_
          refine z_top (y := ((x * n : Nat) : Int)) (by omega) ?_
          refine z_ishl dX0_byLines_94 ?_
          refine z_top (zShl_nat (by omega) (by omega)) ?_
          refine z_ior dX0_byLines_95 ?_
          refine z_top (zOr_nat (by omega) (by omega)) ?_
          refine zistore_8_4 dX0_byLines_96 ?_
          refine ziinc_8_5 dX0_byLines_98 ?_
          refine z_goto (tgt := 12) dX0_byLines_101 (by decide) ?_
          have h9 := ih (x + 1) (some (zi (bm (fun z => f (x * n + z)) n))) (some (zi (if b then 1 else 0))) (by omega)
          rw [Nat.succ_mul, hadd] at h9
          exact h9
      have hmod : ∀ z, z < n → (x * n + z) / n = x := fun z hz => pair_div hz
      refine ziload_8_5 dX0_byLines_12 ?_
      refine ziload_8_1 dX0_byLines_14 ?_
      refine z_icmp_ge (tgt := 104) (by first | omega | exact hR.1 _ _ (by decide) | exact zrng_toInt _) (by first | omega | exact hR.1 _ _ (by decide) | exact zrng_toInt _) dX0_byLines_15 (by decide) (fun h15 => ?_) (fun h15 => ?_)
      · omega
      · refine ziload_8_2 dX0_byLines_18 ?_
        refine ziload_8_5 dX0_byLines_19 ?_
        refine ziload_8_1 dX0_byLines_21 ?_
        refine z_imul dX0_byLines_22 ?_
        refine z_top (y := ((x * n : Nat) : Int)) (by omega) ?_
        refine z_ishr dX0_byLines_23 ?_
        refine ziload_8_3 dX0_byLines_24 ?_
        refine z_iand dX0_byLines_25 ?_
        refine z_top hline ?_
        refine zistore_8_6 dX0_byLines_26 ?_
        refine ziload_8_0 dX0_byLines_28 ?_
        refine z_iconst dX0_byLines_29 ?_
        refine z_icmp_ne (tgt := 47) (by first | omega | exact hR.1 _ _ (by decide) | exact zrng_toInt _) (by first | omega | exact hR.1 _ _ (by decide) | exact zrng_toInt _) dX0_byLines_30 (by decide) (fun h30 => ?_) (fun h30 => ?_)
        · refine ziload_8_0 dX0_byLines_47 ?_
          refine z_iconst dX0_byLines_48 ?_
          refine z_icmp_ne (tgt := 65) (by first | omega | exact hR.1 _ _ (by decide) | exact zrng_toInt _) (by first | omega | exact hR.1 _ _ (by decide) | exact zrng_toInt _) dX0_byLines_49 (by decide) (fun h49 => ?_) (fun h49 => ?_)
          · refine ziload_8_6 dX0_byLines_65 ?_
            refine ziload_8_5 dX0_byLines_67 ?_
            have hsb : zAnd (zShr (bm (fun z => f (x * n + z)) n) (x : Int)) 1 = if f (x * n + x) then 1 else 0 := by rw [z_bit (by omega) (by omega), bm_bit' (n := n) _ hxn]
            refine z_ishr dX0_byLines_69 ?_
            refine z_iconst dX0_byLines_70 ?_
            refine z_iand dX0_byLines_71 ?_
            refine z_top hsb ?_
            refine z_if_eq (tgt := 79) (by split <;> omega) dX0_byLines_72 (by decide) (fun h72 => ?_) (fun h72 => ?_)
            · have hself0 : w = 6 → f (x * n + x) = false := by intro _; revert h72; cases f (x * n + x) <;> simp
              refine z_iconst dX0_byLines_79 ?_
              first
                | (have h9 := k80 true (fun z hz => by
                     first
                     | (rw [show w = 3 by omega]; show decide _ = true; rw [decide_eq_true_eq, hmod z hz]; exact (bm_eq_full _ n).mp (by omega))
                     | (rw [show w = 4 by omega]; show decide _ = true; rw [decide_eq_true_eq, hmod z hz]; exact Classical.not_not.mp (fun h => absurd ((bm_eq_zero _ n).mpr h) (by omega)))
                     | (rw [show w = 6 by omega]; show f _ = true; rw [hmod z hz]; exact hself1 (by omega)))
                   exact h9)
                | (have h9 := k80 false (fun z hz => by
                     first
                     | (rw [show w = 3 by omega]; show decide _ = false; rw [decide_eq_false_iff_not, hmod z hz]; exact fun h => absurd ((bm_eq_full _ n).mpr h) (by omega))
                     | (rw [show w = 4 by omega]; show decide _ = false; rw [decide_eq_false_iff_not, hmod z hz]; exact (bm_eq_zero _ n).mp (by omega))
                     | (rw [show w = 6 by omega]; show f _ = false; rw [hmod z hz]; exact hself0 (by omega)))
                   exact h9)
            · have hself1 : w = 6 → f (x * n + x) = true := by intro _; revert h72; cases f (x * n + x) <;> simp
              refine z_iconst dX0_byLines_75 ?_
              refine z_goto (tgt := 80) dX0_byLines_76 (by decide) ?_
              first
                | (have h9 := k80 true (fun z hz => by
                     first
                     | (rw [show w = 3 by omega]; show decide _ = true; rw [decide_eq_true_eq, hmod z hz]; exact (bm_eq_full _ n).mp (by omega))
                     | (rw [show w = 4 by omega]; show decide _ = true; rw [decide_eq_true_eq, hmod z hz]; exact Classical.not_not.mp (fun h => absurd ((bm_eq_zero _ n).mpr h) (by omega)))
                     | (rw [show w = 6 by omega]; show f _ = true; rw [hmod z hz]; exact hself1 (by omega)))
                   exact h9)
                | (have h9 := k80 false (fun z hz => by
                     first
                     | (rw [show w = 3 by omega]; show decide _ = false; rw [decide_eq_false_iff_not, hmod z hz]; exact fun h => absurd ((bm_eq_full _ n).mpr h) (by omega))
                     | (rw [show w = 4 by omega]; show decide _ = false; rw [decide_eq_false_iff_not, hmod z hz]; exact (bm_eq_zero _ n).mp (by omega))
                     | (rw [show w = 6 by omega]; show f _ = false; rw [hmod z hz]; exact hself0 (by omega)))
                   exact h9)
          · refine ziload_8_6 dX0_byLines_52 ?_
            refine z_if_eq (tgt := 61) (by first | omega | exact hR.1 _ _ (by decide) | exact zrng_toInt _) dX0_byLines_54 (by decide) (fun h54 => ?_) (fun h54 => ?_)
            · refine z_iconst dX0_byLines_61 ?_
              refine z_goto (tgt := 80) dX0_byLines_62 (by decide) ?_
              first
                | (have h9 := k80 true (fun z hz => by
                     first
                     | (rw [show w = 3 by omega]; show decide _ = true; rw [decide_eq_true_eq, hmod z hz]; exact (bm_eq_full _ n).mp (by omega))
                     | (rw [show w = 4 by omega]; show decide _ = true; rw [decide_eq_true_eq, hmod z hz]; exact Classical.not_not.mp (fun h => absurd ((bm_eq_zero _ n).mpr h) (by omega)))
                     | (rw [show w = 6 by omega]; show f _ = true; rw [hmod z hz]; exact hself1 (by omega)))
                   exact h9)
                | (have h9 := k80 false (fun z hz => by
                     first
                     | (rw [show w = 3 by omega]; show decide _ = false; rw [decide_eq_false_iff_not, hmod z hz]; exact fun h => absurd ((bm_eq_full _ n).mpr h) (by omega))
                     | (rw [show w = 4 by omega]; show decide _ = false; rw [decide_eq_false_iff_not, hmod z hz]; exact (bm_eq_zero _ n).mp (by omega))
                     | (rw [show w = 6 by omega]; show f _ = false; rw [hmod z hz]; exact hself0 (by omega)))
                   exact h9)
            · refine z_iconst dX0_byLines_57 ?_
              refine z_goto (tgt := 80) dX0_byLines_58 (by decide) ?_
              first
                | (have h9 := k80 true (fun z hz => by
                     first
                     | (rw [show w = 3 by omega]; show decide _ = true; rw [decide_eq_true_eq, hmod z hz]; exact (bm_eq_full _ n).mp (by omega))
                     | (rw [show w = 4 by omega]; show decide _ = true; rw [decide_eq_true_eq, hmod z hz]; exact Classical.not_not.mp (fun h => absurd ((bm_eq_zero _ n).mpr h) (by omega)))
                     | (rw [show w = 6 by omega]; show f _ = true; rw [hmod z hz]; exact hself1 (by omega)))
                   exact h9)
                | (have h9 := k80 false (fun z hz => by
                     first
                     | (rw [show w = 3 by omega]; show decide _ = false; rw [decide_eq_false_iff_not, hmod z hz]; exact fun h => absurd ((bm_eq_full _ n).mpr h) (by omega))
                     | (rw [show w = 4 by omega]; show decide _ = false; rw [decide_eq_false_iff_not, hmod z hz]; exact (bm_eq_zero _ n).mp (by omega))
                     | (rw [show w = 6 by omega]; show f _ = false; rw [hmod z hz]; exact hself0 (by omega)))
                   exact h9)
        · refine ziload_8_6 dX0_byLines_33 ?_
          refine ziload_8_3 dX0_byLines_35 ?_
          refine z_icmp_ne (tgt := 43) (by first | omega | exact hR.1 _ _ (by decide) | exact zrng_toInt _) (by first | omega | exact hR.1 _ _ (by decide) | exact zrng_toInt _) dX0_byLines_36 (by decide) (fun h36 => ?_) (fun h36 => ?_)
          · refine z_iconst dX0_byLines_43 ?_
            refine z_goto (tgt := 80) dX0_byLines_44 (by decide) ?_
            first
              | (have h9 := k80 true (fun z hz => by
                   first
                   | (rw [show w = 3 by omega]; show decide _ = true; rw [decide_eq_true_eq, hmod z hz]; exact (bm_eq_full _ n).mp (by omega))
                   | (rw [show w = 4 by omega]; show decide _ = true; rw [decide_eq_true_eq, hmod z hz]; exact Classical.not_not.mp (fun h => absurd ((bm_eq_zero _ n).mpr h) (by omega)))
                   | (rw [show w = 6 by omega]; show f _ = true; rw [hmod z hz]; exact hself1 (by omega)))
                 exact h9)
              | (have h9 := k80 false (fun z hz => by
                   first
                   | (rw [show w = 3 by omega]; show decide _ = false; rw [decide_eq_false_iff_not, hmod z hz]; exact fun h => absurd ((bm_eq_full _ n).mpr h) (by omega))
                   | (rw [show w = 4 by omega]; show decide _ = false; rw [decide_eq_false_iff_not, hmod z hz]; exact (bm_eq_zero _ n).mp (by omega))
                   | (rw [show w = 6 by omega]; show f _ = false; rw [hmod z hz]; exact hself0 (by omega)))
                 exact h9)
          · refine z_iconst dX0_byLines_39 ?_
            refine z_goto (tgt := 80) dX0_byLines_40 (by decide) ?_
            first
              | (have h9 := k80 true (fun z hz => by
                   first
                   | (rw [show w = 3 by omega]; show decide _ = true; rw [decide_eq_true_eq, hmod z hz]; exact (bm_eq_full _ n).mp (by omega))
                   | (rw [show w = 4 by omega]; show decide _ = true; rw [decide_eq_true_eq, hmod z hz]; exact Classical.not_not.mp (fun h => absurd ((bm_eq_zero _ n).mpr h) (by omega)))
                   | (rw [show w = 6 by omega]; show f _ = true; rw [hmod z hz]; exact hself1 (by omega)))
                 exact h9)
              | (have h9 := k80 false (fun z hz => by
                   first
                   | (rw [show w = 3 by omega]; show decide _ = false; rw [decide_eq_false_iff_not, hmod z hz]; exact fun h => absurd ((bm_eq_full _ n).mpr h) (by omega))
                   | (rw [show w = 4 by omega]; show decide _ = false; rw [decide_eq_false_iff_not, hmod z hz]; exact (bm_eq_zero _ n).mp (by omega))
                   | (rw [show w = 6 by omega]; show f _ = false; rw [hmod z hz]; exact hself0 (by omega)))
                 exact h9)
  refine z_iconst dX0_byLines_0 ?_
  refine ziload_8_1 dX0_byLines_1 ?_
  refine z_ishl dX0_byLines_2 ?_
  refine z_top (zShl_one (by omega)) ?_
  refine z_iconst dX0_byLines_3 ?_
  refine z_isub dX0_byLines_4 ?_
  refine z_top (y := ((2 ^ n - 1 : Nat) : Int)) (by omega) ?_
  refine zistore_8_3 dX0_byLines_5 ?_
  refine z_iconst dX0_byLines_6 ?_
  refine zistore_8_4 dX0_byLines_7 ?_
  refine z_iconst dX0_byLines_9 ?_
  refine zistore_8_5 dX0_byLines_10 ?_
  have := loop n 0 none none (by omega)
  rw [Nat.zero_mul] at this
  exact this
theorem sp_Bits_made (M : zMem) (w n : Nat) (f g : Nat → Bool) (hn : okn n) (hw : 1 ≤ w ∧ w ≤ 6) : zSp zd_Bits_made 1 [zi w, zi n, zi (bm f (n * n)), zi (bm g (n * n))] M (fun r M' => M' = M ∧ r = bm (mkR w n f g) (n * n)) := by
  refine zSp_in 0 [some (zi w), some (zi n), some (zi (bm f (n * n))), some (zi (bm g (n * n)))] rfl rfl (by decide +kernel) rfl ?_
  refine z_withR (fun hR => ?_)
  have hq := sq_le hn
  have hf9 := bm9 hn f (Nat.le_refl (n * n))
  have hg9 := bm9 hn g (Nat.le_refl (n * n))
  have hpw := pw9 hn (Nat.le_refl (n * n))
  have sw : ∀ {w'}, w' = 3 ∨ w' = 4 ∨ w' = 5 ∨ w' = 6 → mkR w' n f f = mkR w' n f g := fun h => by rcases h with rfl | rfl | rfl | rfl <;> rfl
  refine ziload_4_0 dX0_made_0 ?_
  rcases (show (w : Int) = 1 ∨ (w : Int) = 2 ∨ (w : Int) = 3 ∨ (w : Int) = 4 ∨ (w : Int) = 5 ∨ ((w : Int) < 1 ∨ 5 < (w : Int)) from by omega) with h1 | h1 | h1 | h1 | h1 | h1
  · refine z_swIn (tgt := 36) 0 (by first | omega | exact hR.1 _ _ (by decide) | exact zrng_toInt _) (by omega) dX0_made_1 (by decide) rfl (by decide) ?_
    refine ziload_4_2 dX0_made_36 ?_
    refine z_iconst dX0_made_37 ?_
    refine z_ixor dX0_made_38 ?_
    refine ziload_4_1 dX0_made_39 ?_
    refine zc_Bits_7 rfl dX0_made_40 (by decide) (Nat.le_of_ble_eq_true rfl) (sp_Bits_whole M n hn) (fun r40 M40 hq40 => ?_)
    refine z_withR (fun hR => ?_)
    obtain ⟨rfl, rfl⟩ := hq40
    refine z_iand dX0_made_43 ?_
    refine z_top (zAndn' (by omega)) ?_
    refine z_iret rfl ?_ dX0_made_44
    refine ⟨rfl, ?_⟩
    rw [show w = 1 by omega]
    congr 1
    apply bm_ext (Nat.lt_of_le_of_lt (nAndn_le _ _) (by have := Nat.one_le_two_pow (n := n * n); omega))
    intro i hi
    rw [nAndn_bit, Nat.testBit_two_pow_sub_one, bm_bit' (n := n) f hi]
    simp [hi, mkR]
  · refine z_swIn (tgt := 45) 1 (by first | omega | exact hR.1 _ _ (by decide) | exact zrng_toInt _) (by omega) dX0_made_1 (by decide) rfl (by decide) ?_
    refine ziload_4_2 dX0_made_45 ?_
    refine ziload_4_3 dX0_made_46 ?_
    refine z_iand dX0_made_47 ?_
    refine z_top (zAnd_nat (by omega)) ?_
    refine z_iret rfl ?_ dX0_made_48
    refine ⟨rfl, ?_⟩
    rw [show w = 2 by omega]
    congr 1
    apply bm_ext (Nat.lt_of_le_of_lt Nat.and_le_left (bm_lt f _))
    intro i hi
    rw [Nat.testBit_and, bm_bit' (n := n) f hi, bm_bit' (n := n) g hi]
    rfl
  · refine z_swIn (tgt := 55) 2 (by first | omega | exact hR.1 _ _ (by decide) | exact zrng_toInt _) (by omega) dX0_made_1 (by decide) rfl (by decide) ?_
    refine ziload_4_0 dX0_made_55 ?_
    refine ziload_4_1 dX0_made_56 ?_
    refine ziload_4_2 dX0_made_57 ?_
    refine zc_Bits_17 rfl dX0_made_58 (by decide) (Nat.le_of_ble_eq_true rfl) (sp_Bits_byLines M w n f hn (by omega)) (fun r58 M58 hq58 => ?_)
    refine z_withR (fun hR => ?_)
    obtain ⟨rfl, rfl⟩ := hq58
    refine z_iret rfl ?_ dX0_made_61
    exact ⟨rfl, by rw [sw (by omega)]⟩
  · refine z_swIn (tgt := 55) 3 (by first | omega | exact hR.1 _ _ (by decide) | exact zrng_toInt _) (by omega) dX0_made_1 (by decide) rfl (by decide) ?_
    refine ziload_4_0 dX0_made_55 ?_
    refine ziload_4_1 dX0_made_56 ?_
    refine ziload_4_2 dX0_made_57 ?_
    refine zc_Bits_17 rfl dX0_made_58 (by decide) (Nat.le_of_ble_eq_true rfl) (sp_Bits_byLines M w n f hn (by omega)) (fun r58 M58 hq58 => ?_)
    refine z_withR (fun hR => ?_)
    obtain ⟨rfl, rfl⟩ := hq58
    refine z_iret rfl ?_ dX0_made_61
    exact ⟨rfl, by rw [sw (by omega)]⟩
  · refine z_swIn (tgt := 49) 4 (by first | omega | exact hR.1 _ _ (by decide) | exact zrng_toInt _) (by omega) dX0_made_1 (by decide) rfl (by decide) ?_
    refine ziload_4_1 dX0_made_49 ?_
    refine ziload_4_2 dX0_made_50 ?_
    refine zc_Bits_13 rfl dX0_made_51 (by decide) (Nat.le_of_ble_eq_true rfl) (sp_Bits_turnedAbout M n f hn) (fun r51 M51 hq51 => ?_)
    refine z_withR (fun hR => ?_)
    obtain ⟨rfl, rfl⟩ := hq51
    refine z_iret rfl ?_ dX0_made_54
    exact ⟨rfl, by rw [show w = 5 by omega, sw (by omega)]⟩
  · refine z_swOut (tgt := 55) (by first | omega | exact hR.1 _ _ (by decide) | exact zrng_toInt _) dX0_made_1 (by omega) (by decide) ?_
    refine ziload_4_0 dX0_made_55 ?_
    refine ziload_4_1 dX0_made_56 ?_
    refine ziload_4_2 dX0_made_57 ?_
    refine zc_Bits_17 rfl dX0_made_58 (by decide) (Nat.le_of_ble_eq_true rfl) (sp_Bits_byLines M w n f hn (by omega)) (fun r58 M58 hq58 => ?_)
    refine z_withR (fun hR => ?_)
    obtain ⟨rfl, rfl⟩ := hq58
    refine z_iret rfl ?_ dX0_made_61
    exact ⟨rfl, by rw [sw (by omega)]⟩
