/-! orbits -/
theorem per_1 (b : Nat → Bool) : ∀ s, s < 1 → fb_ct (fun r => b (CP (IV s) r)) 1 = fb_ct b 1 := by
  intro s hs
  rcases (show s = 0 by omega) with rfl
  · show 0 + (if b 0 = true then 1 else 0) = 0 + (if b 0 = true then 1 else 0)
    generalize (if b 0 = true then 1 else 0) = x0
    omega
theorem per_2 (b : Nat → Bool) : ∀ s, s < 2 → fb_ct (fun r => b (CP (IV s) r)) 2 = fb_ct b 2 := by
  intro s hs
  rcases (show s = 0 ∨ s = 1 by omega) with rfl | rfl
  · show 0 + (if b 0 = true then 1 else 0) + (if b 1 = true then 1 else 0) = 0 + (if b 0 = true then 1 else 0) + (if b 1 = true then 1 else 0)
    generalize (if b 0 = true then 1 else 0) = x0
    generalize (if b 1 = true then 1 else 0) = x1
    omega
  · show 0 + (if b 1 = true then 1 else 0) + (if b 0 = true then 1 else 0) = 0 + (if b 0 = true then 1 else 0) + (if b 1 = true then 1 else 0)
    generalize (if b 0 = true then 1 else 0) = x0
    generalize (if b 1 = true then 1 else 0) = x1
    omega
theorem per_6 (b : Nat → Bool) : ∀ s, s < 6 → fb_ct (fun r => b (CP (IV s) r)) 6 = fb_ct b 6 := by
  intro s hs
  rcases (show s = 0 ∨ s = 1 ∨ s = 2 ∨ s = 3 ∨ s = 4 ∨ s = 5 by omega) with rfl | rfl | rfl | rfl | rfl | rfl
  · show 0 + (if b 0 = true then 1 else 0) + (if b 1 = true then 1 else 0) + (if b 2 = true then 1 else 0) + (if b 3 = true then 1 else 0) + (if b 4 = true then 1 else 0) + (if b 5 = true then 1 else 0) = 0 + (if b 0 = true then 1 else 0) + (if b 1 = true then 1 else 0) + (if b 2 = true then 1 else 0) + (if b 3 = true then 1 else 0) + (if b 4 = true then 1 else 0) + (if b 5 = true then 1 else 0)
    generalize (if b 0 = true then 1 else 0) = x0
    generalize (if b 1 = true then 1 else 0) = x1
    generalize (if b 2 = true then 1 else 0) = x2
    generalize (if b 3 = true then 1 else 0) = x3
    generalize (if b 4 = true then 1 else 0) = x4
    generalize (if b 5 = true then 1 else 0) = x5
    omega
  · show 0 + (if b 1 = true then 1 else 0) + (if b 0 = true then 1 else 0) + (if b 4 = true then 1 else 0) + (if b 5 = true then 1 else 0) + (if b 2 = true then 1 else 0) + (if b 3 = true then 1 else 0) = 0 + (if b 0 = true then 1 else 0) + (if b 1 = true then 1 else 0) + (if b 2 = true then 1 else 0) + (if b 3 = true then 1 else 0) + (if b 4 = true then 1 else 0) + (if b 5 = true then 1 else 0)
    generalize (if b 0 = true then 1 else 0) = x0
    generalize (if b 1 = true then 1 else 0) = x1
    generalize (if b 2 = true then 1 else 0) = x2
    generalize (if b 3 = true then 1 else 0) = x3
    generalize (if b 4 = true then 1 else 0) = x4
    generalize (if b 5 = true then 1 else 0) = x5
    omega
  · show 0 + (if b 2 = true then 1 else 0) + (if b 5 = true then 1 else 0) + (if b 0 = true then 1 else 0) + (if b 4 = true then 1 else 0) + (if b 3 = true then 1 else 0) + (if b 1 = true then 1 else 0) = 0 + (if b 0 = true then 1 else 0) + (if b 1 = true then 1 else 0) + (if b 2 = true then 1 else 0) + (if b 3 = true then 1 else 0) + (if b 4 = true then 1 else 0) + (if b 5 = true then 1 else 0)
    generalize (if b 0 = true then 1 else 0) = x0
    generalize (if b 1 = true then 1 else 0) = x1
    generalize (if b 2 = true then 1 else 0) = x2
    generalize (if b 3 = true then 1 else 0) = x3
    generalize (if b 4 = true then 1 else 0) = x4
    generalize (if b 5 = true then 1 else 0) = x5
    omega
  · show 0 + (if b 3 = true then 1 else 0) + (if b 4 = true then 1 else 0) + (if b 5 = true then 1 else 0) + (if b 0 = true then 1 else 0) + (if b 1 = true then 1 else 0) + (if b 2 = true then 1 else 0) = 0 + (if b 0 = true then 1 else 0) + (if b 1 = true then 1 else 0) + (if b 2 = true then 1 else 0) + (if b 3 = true then 1 else 0) + (if b 4 = true then 1 else 0) + (if b 5 = true then 1 else 0)
    generalize (if b 0 = true then 1 else 0) = x0
    generalize (if b 1 = true then 1 else 0) = x1
    generalize (if b 2 = true then 1 else 0) = x2
    generalize (if b 3 = true then 1 else 0) = x3
    generalize (if b 4 = true then 1 else 0) = x4
    generalize (if b 5 = true then 1 else 0) = x5
    omega
  · show 0 + (if b 5 = true then 1 else 0) + (if b 2 = true then 1 else 0) + (if b 3 = true then 1 else 0) + (if b 1 = true then 1 else 0) + (if b 0 = true then 1 else 0) + (if b 4 = true then 1 else 0) = 0 + (if b 0 = true then 1 else 0) + (if b 1 = true then 1 else 0) + (if b 2 = true then 1 else 0) + (if b 3 = true then 1 else 0) + (if b 4 = true then 1 else 0) + (if b 5 = true then 1 else 0)
    generalize (if b 0 = true then 1 else 0) = x0
    generalize (if b 1 = true then 1 else 0) = x1
    generalize (if b 2 = true then 1 else 0) = x2
    generalize (if b 3 = true then 1 else 0) = x3
    generalize (if b 4 = true then 1 else 0) = x4
    generalize (if b 5 = true then 1 else 0) = x5
    omega
  · show 0 + (if b 4 = true then 1 else 0) + (if b 3 = true then 1 else 0) + (if b 1 = true then 1 else 0) + (if b 2 = true then 1 else 0) + (if b 5 = true then 1 else 0) + (if b 0 = true then 1 else 0) = 0 + (if b 0 = true then 1 else 0) + (if b 1 = true then 1 else 0) + (if b 2 = true then 1 else 0) + (if b 3 = true then 1 else 0) + (if b 4 = true then 1 else 0) + (if b 5 = true then 1 else 0)
    generalize (if b 0 = true then 1 else 0) = x0
    generalize (if b 1 = true then 1 else 0) = x1
    generalize (if b 2 = true then 1 else 0) = x2
    generalize (if b 3 = true then 1 else 0) = x3
    generalize (if b 4 = true then 1 else 0) = x4
    generalize (if b 5 = true then 1 else 0) = x5
    omega
theorem per_all {n : Nat} (hn : okn n) (b : Nat → Bool) {s : Nat} (hs : s < RN n) : fb_ct (fun r => b (CP (IV s) r)) (RN n) = fb_ct b (RN n) := by
  rcases hn with rfl | rfl | rfl
  · exact per_1 b s hs
  · exact per_2 b s hs
  · exact per_6 b s hs
theorem fib_eq {n m s r : Nat} (hn : okn n) (hm : m < cN n) (hs : s < RN n) (hr : r < RN n) : (rho n r m == rho n s m) = (rho n (CP (IV s) r) m == m) := by
  obtain ⟨i1, i2, i3⟩ := IV_ok hn hs
  rw [cN_pow hn] at hm
  rw [Bool.eq_iff_iff, beq_iff_eq, beq_iff_eq, ← rho_rho hn i1 hr]
  constructor
  · intro h
    rw [h, rho_rho hn i1 hs, i2, rho_0 hn hm]
  · intro h
    have h2 : rho n s (rho n (IV s) (rho n r m)) = rho n s m := by rw [h]
    rw [rho_rho hn hs i1, i3, rho_0 hn (rho_lt hn hr)] at h2
    exact h2
theorem fib_ct {n m s : Nat} (hn : okn n) (hm : m < cN n) (hs : s < RN n) : fb_ct (fun r => rho n r m == rho n s m) (RN n) = stb n m := by
  unfold stb
  rw [← per_all hn (fun r => rho n r m == m) hs]
  exact fb_ct_cong (fun r hr => fib_eq hn hm hs hr)
theorem sm_swap (f : Nat → Nat → Nat) (A : Nat) : ∀ C, fb_sm (fun k => fb_sm (fun m => f k m) A) C = fb_sm (fun m => fb_sm (fun k => f k m) C) A
  | 0 => by
    have : ∀ A, fb_sm (fun m => fb_sm (fun k => f k m) 0) A = 0 := by
      intro A
      induction A with
      | zero => rfl
      | succ A ih => rw [fb_sm_succ, ih]; rfl
    rw [this]; rfl
  | C + 1 => by
    rw [fb_sm_succ, sm_swap f A C, ← fb_sm_add]
    rfl
theorem sm_ct (p : Nat → Bool) : ∀ n, fb_sm (fun k => if p k then 1 else 0) n = fb_ct p n
  | 0 => rfl
  | n + 1 => by rw [fb_sm_succ, sm_ct p n, fb_ct_succ]
theorem sm_one {v c : Nat} : ∀ {n : Nat}, v < n → fb_sm (fun k => if v = k then c else 0) n = c
  | 0, h => absurd h (Nat.not_lt_zero _)
  | n + 1, h => by
    rw [fb_sm_succ]
    by_cases e : v = n
    · rw [if_pos e]
      have : fb_sm (fun k => if v = k then c else 0) n = 0 := by
        have h2 : fb_sm (fun k => if v = k then c else 0) n = fb_sm (fun _ => 0) n := fb_sm_cong (fun k hk => by rw [if_neg (by omega)])
        rw [h2, fb_sm_const, Nat.mul_zero]
      omega
    · rw [if_neg e, sm_one (n := n) (by omega)]
      rfl
theorem sm_mul (f : Nat → Nat) (c : Nat) : ∀ n, fb_sm (fun k => f k * c) n = fb_sm f n * c
  | 0 => (Nat.zero_mul c).symm
  | n + 1 => by rw [fb_sm_succ, sm_mul f c n, fb_sm_succ, Nat.add_mul]
theorem orb_ct {n m : Nat} (hn : okn n) (hm : m < cN n) (hl : lst n m = m) : fb_ct (fun k => lst n k == m) (cN n) * stb n m = RN n := by
  have hpw := cN_pow hn
  have e1 : fb_sm (fun k => fb_sm (fun r => if rho n r m = k then 1 else 0) (RN n)) (cN n) = RN n := by
    rw [sm_swap (fun k r => if rho n r m = k then 1 else 0) (RN n) (cN n)]
    have h2 : fb_sm (fun r => fb_sm (fun k => if rho n r m = k then 1 else 0) (cN n)) (RN n) = fb_sm (fun _ => 1) (RN n) := fb_sm_cong (fun r hr => sm_one (by rw [hpw]; exact rho_lt hn hr))
    rw [h2, fb_sm_const, Nat.mul_one]
  have e2 : ∀ k, k < cN n → fb_sm (fun r => if rho n r m = k then 1 else 0) (RN n) = (if (lst n k == m) = true then 1 else 0) * stb n m := by
    intro k hk
    have h3 : fb_sm (fun r => if rho n r m = k then 1 else 0) (RN n) = fb_ct (fun r => rho n r m == k) (RN n) := by
      rw [← sm_ct]
      refine fb_sm_cong (fun r _ => ?_)
      simp
    rw [h3]
    by_cases e : lst n k = m
    · rw [if_pos (by simp [e]), Nat.one_mul]
      obtain ⟨r, hr, er⟩ := lst_is (k := k) hn
      obtain ⟨i1, i2, i3⟩ := IV_ok hn hr
      have hk2 : rho n (IV r) m = k := by
        rw [← e, er, rho_rho hn i1 hr, i2, rho_0 hn (by rw [← hpw]; exact hk)]
      rw [← hk2]
      exact fib_ct hn hm i1
    · rw [if_neg (by simp [e]), Nat.zero_mul]
      refine fb_ct_zero.mpr (fun r hr => ?_)
      refine beq_eq_false_iff_ne.mpr (fun z => e ?_)
      rw [← z, lst_rho hn hr, hl]
  rw [fb_sm_cong e2, sm_mul, sm_ct] at e1
  exact e1
theorem likes_ct {n m : Nat} (hn : okn n) (hm : m < cN n) (hl : lst n m = m) : fb_ct (fun k => lst n k == m) (cN n) = likes n m := by
  have h := orb_ct hn hm hl
  have h2 := (stb_ok hn hm).1
  unfold likes
  rw [if_pos hl, ← h, Nat.mul_div_cancel _ h2]
/-- what is alike along orbits is counted by the least ones -/
theorem orb_sum {n : Nat} (hn : okn n) {g : Nat → Bool} (hg : ∀ k, k < cN n → g (lst n k) = g k) : fb_ct g (cN n) = fb_sm (fun m => if ((lst n m == m) && g m) = true then likes n m else 0) (cN n) := by
  have hpw := cN_pow hn
  rw [← sm_ct]
  have e1 : ∀ k, k < cN n → (if g k = true then 1 else 0) = fb_sm (fun m => if lst n k = m then (if ((lst n m == m) && g m) = true then 1 else 0) else 0) (cN n) := by
    intro k hk
    have h2 : fb_sm (fun m => if lst n k = m then (if ((lst n m == m) && g m) = true then 1 else 0) else 0) (cN n) = fb_sm (fun m => if lst n k = m then (if g k = true then 1 else 0) else 0) (cN n) := by
      refine fb_sm_cong (fun m _ => ?_)
      by_cases e : lst n k = m
      · rw [if_pos e, if_pos e, ← e, lst_lst hn, hg k hk]
        simp
      · rw [if_neg e, if_neg e]
    rw [h2, sm_one (by rw [hpw]; exact lst_lt hn)]
  rw [fb_sm_cong e1, sm_swap (fun k m => if lst n k = m then (if ((lst n m == m) && g m) = true then 1 else 0) else 0) (cN n) (cN n)]
  refine fb_sm_cong (fun m hm => ?_)
  by_cases e : ((lst n m == m) && g m) = true
  · have hl : lst n m = m := by rw [Bool.and_eq_true, beq_iff_eq] at e; exact e.1
    simp only [if_pos e]
    rw [← likes_ct hn hm hl, ← sm_ct]
    refine fb_sm_cong (fun k _ => ?_)
    simp
  · simp only [if_neg e]
    refine Eq.trans (fb_sm_cong (g := fun _ => 0) (fun k _ => by split <;> rfl)) ?_
    rw [fb_sm_const, Nat.mul_zero]
/-- a sum over the least ones is a sum over the entries -/
theorem sm_sub {s : Nat → Bool} {f : Nat → Nat} {h : Nat → Nat} : ∀ {P : Nat}, (∀ p, p < P → s p = true → f (fb_ct s p) = p) → fb_sm (fun p => if s p = true then h p else 0) P = fb_sm (fun e => h (f e)) (fb_ct s P)
  | 0, _ => rfl
  | P + 1, hp => by
    have ih := sm_sub (s := s) (f := f) (h := h) (P := P) (fun p h1 => hp p (by omega))
    rw [fb_sm_succ, fb_ct_succ, ih]
    cases hs : s P
    · simp
    · simp only [if_true]
      rw [fb_sm_succ, hp P (by omega) hs]
theorem worlds_sum {B : Nat → Nat → Nat} {n : Nat} (hn : okn n) (hw : wfT (B 1) (B 2) (B 0 0)) (hl : ∀ l, l < B 3 0 → B 4 l < B 0 0 ∧ B 5 l < B 0 0) : fb_ct (fun k => bKp B (pb n + k)) (cN n) = fb_sm (wmF B n false) (cC n) := by
  have hpw := cN_pow hn
  have hb : ∀ k, k < cN n → bKp B (pb n + k) = decide (∀ l, l < B 3 0 → kp (B 1) (B 2) n k (B 4 l) (B 5 l) = true) := by
    intro k hk
    obtain ⟨e1, e2, _⟩ := pz_of hn hk
    unfold bKp
    rw [e1, e2]
  have hg : ∀ k, k < cN n → bKp B (pb n + lst n k) = bKp B (pb n + k) := by
    intro k hk
    rw [hb k hk, hb (lst n k) (by rw [hpw]; exact lst_lt hn)]
    obtain ⟨r, hr, er⟩ := lst_is (k := k) hn
    rw [er]
    congr 1
    refine propext (forall_congr' (fun l => ?_))
    constructor
    · intro h h1; rw [← kp_rho hw hn hr (hl l h1).1 (hl l h1).2]; exact h h1
    · intro h h1; rw [kp_rho hw hn hr (hl l h1).1 (hl l h1).2]; exact h h1
  rw [orb_sum hn hg]
  have e1 : ∀ m, m < cN n → (if ((lst n m == m) && bKp B (pb n + m)) = true then likes n m else 0) = (if (lst n m == m) = true then (if bKp B (pb n + m) = true then likes n m else 0) else 0) := by
    intro m _
    cases (lst n m == m) <;> cases bKp B (pb n + m) <;> rfl
  rw [fb_sm_cong e1, sm_sub (s := fun m => lst n m == m) (f := fun j => eK (sT n + j)) (h := fun m => if bKp B (pb n + m) = true then likes n m else 0)]
  · show fb_sm _ (cc n (cN n)) = _
    rw [cc_all hn]
    refine fb_sm_cong (fun j hj => ?_)
    obtain ⟨e2, e3⟩ := eSz_of hn hj
    have e4 : pb n + eK (sT n + j) = pe (sT n + j) := by unfold pe; rw [e2]
    unfold wmF
    rw [e4, wK_pe e3, e2]
    rfl
  · intro p hp hs
    exact (eI_ok hn hp (beq_iff_eq.mp hs)).2.2
theorem wm_true {B : Nat → Nat → Nat} {n : Nat} : fb_sm (wmF B n true) (cC n) = fb_ct (fun j => wK B (sT n + j)) (cC n) := by
  rw [← sm_ct]
  rfl
theorem sp_Model_worlds (M : zMem) (B : Nat → Nat → Nat) (n : Int) (o : Bool) (hn : zrng n) (h : abR M B) : zSp zd_Model_worlds 4 [zr 9, zi n, zi (if o then 1 else 0)] M (fun r M' => rOK M M' B r (fWorlds B n o)) := by
  refine zSp_in 2 [some (zr 9), some (zi n), some (zi (if o then 1 else 0)), none, none] rfl rfl (by decide +kernel) rfl ?_
  refine z_withR (fun hR => ?_)
  have hlT := lT_le B
  have hP6 := h.1.2.2.2.1.2.1
  obtain ⟨post, hpost⟩ : ∃ post : Int → zMem → Prop, post = (fun (r : Int) M' => rOK M M' B r (fWorlds B n o)) := ⟨_, rfl⟩
  rw [← hpost]
  have lp2 : ∀ (M1 : zMem) (n' : Nat), okn n' → laid M1 B → (∀ r : Int, r = (tA B n' (lT B) : Nat) → post r M1) → ∀ (c k : Nat), k + c = lT B → zV zd_Model_worlds 4 67 [some (zr 9), some (zi n'), some (zi 1), some (zi (tA B n' k : Nat)), some (zi k)] [] M1 post := by
    intro M1 n' hn' hl done c
    have hs := hl.2.1
    have hn3 := hn'.le
    induction c with
    | zero =>
      intro k hk
      have htk : tA B n' k ≤ k := fb_ct_le _ _
      refine z_withR (fun hR => ?_)
      refine ziload_5_4 dX9_worlds_67 ?_
      refine zaload_5_0 dX9_worlds_69 ?_
      refine zg_Model_157 rfl dX9_worlds_70 ?_
      refine z_top hs ?_
      refine z_icmp_ge (tgt := 108) (by first | omega | exact hR.1 _ _ (by decide) | exact zrng_toInt _) (by first | omega | exact hR.1 _ _ (by decide) | exact zrng_toInt _) dX9_worlds_73 (by decide) (fun h73 => ?_) (fun h73 => ?_)
      · refine ziload_5_3 dX9_worlds_108 ?_
        refine z_iret rfl ?_ dX9_worlds_109
        exact done _ (by rw [show k = lT B by omega])
      · omega
    | succ c ih =>
      intro k hk
      obtain ⟨q1, q2, q3⟩ := lE_okA (q := wK B) (j := k) (by show k < lT B; omega)
      obtain ⟨p1, p2, p3, p4⟩ := pe_ok q1
      have eL := hl.2.2 k (by omega)
      have hs3 := (okn_eSz (lE (wK B) k)).le
      have htk : tA B n' k ≤ k := fb_ct_le _ _
      have hst : tA B n' (k + 1) = tA B n' k + (if eSz (lE (wK B) k) == n' then 1 else 0) := fb_ct_succ _ _
      have kk := ih (k + 1) (by omega)
      refine z_withR (fun hR => ?_)
      refine ziload_5_4 dX9_worlds_67 ?_
      refine zaload_5_0 dX9_worlds_69 ?_
      refine zg_Model_157 rfl dX9_worlds_70 ?_
      refine z_top hs ?_
      refine z_icmp_ge (tgt := 108) (by first | omega | exact hR.1 _ _ (by decide) | exact zrng_toInt _) (by first | omega | exact hR.1 _ _ (by decide) | exact zrng_toInt _) dX9_worlds_73 (by decide) (fun h73 => ?_) (fun h73 => ?_)
      · omega
      · refine ziload_5_2 dX9_worlds_76 ?_
        refine z_if_eq (tgt := 108) (by first | omega | exact hR.1 _ _ (by decide) | exact zrng_toInt _) dX9_worlds_77 (by decide) (fun h77 => ?_) (fun h77 => ?_)
        · exact absurd h77 (by decide)
        · refine ziload_5_3 dX9_worlds_80 ?_
          refine zaload_5_0 dX9_worlds_81 ?_
          refine zg_Model_48 rfl dX9_worlds_82 ?_
          refine ziload_5_4 dX9_worlds_85 ?_
          refine z_iald _ rfl (by decide) (by decide) rfl (by omega) dX9_worlds_87 ?_
          refine z_top eL ?_
          refine zc_Model_120 rfl dX9_worlds_88 (by decide) (Nat.le_of_ble_eq_true rfl) (sp_Model_sizeAt M1 (pe (lE (wK B) k)) p1) (fun r88 M88 hq88 => ?_)
          refine z_withR (fun hR => ?_)
          have e88 := hq88.1.symm
          subst e88
          have q88 := hq88.2
          rw [p2] at q88
          subst q88
          refine ziload_5_1 dX9_worlds_91 ?_
          refine z_icmp_ne (tgt := 99) (by first | omega | exact hR.1 _ _ (by decide) | exact zrng_toInt _) (by first | omega | exact hR.1 _ _ (by decide) | exact zrng_toInt _) dX9_worlds_92 (by decide) (fun h92 => ?_) (fun h92 => ?_)
          · rw [hst, if_neg (by simp; omega)] at kk
            refine z_iconst dX9_worlds_99 ?_
            refine z_iadd dX9_worlds_100 ?_
            refine zistore_5_3 dX9_worlds_101 ?_
            refine ziinc_5_4 dX9_worlds_102 ?_
            refine z_goto (tgt := 67) dX9_worlds_105 (by decide) ?_
            exact kk
          · rw [hst, if_pos (by simp; omega)] at kk
            refine z_iconst dX9_worlds_95 ?_
            refine z_goto (tgt := 100) dX9_worlds_96 (by decide) ?_
            refine z_iadd dX9_worlds_100 ?_
            refine zistore_5_3 dX9_worlds_101 ?_
            refine ziinc_5_4 dX9_worlds_102 ?_
            refine z_goto (tgt := 67) dX9_worlds_105 (by decide) ?_
            exact kk
  have mid : ∀ (M1 : zMem) (n' : Nat), okn n' → zV zd_Model_worlds 4 67 [some (zr 9), some (zi n'), some (zi 1), some (zi 0), some (zi 0)] [] M1 post → zV zd_Model_worlds 4 22 [some (zr 9), some (zi n'), some (zi 1), some (zi 0), some (zi (pb n' : Nat))] [] M1 post := by
    intro M1 n' hn' hz
    have hpb := pb_le hn'
    have hcn : cN n' ≤ 19683 ∧ 1 ≤ cN n' := by rcases hn' with rfl | rfl | rfl <;> decide
    refine z_withR (fun hR => ?_)
    refine ziload_5_4 dX9_worlds_22 ?_
    refine ziload_5_1 dX9_worlds_24 ?_
    refine zc_Model_127 rfl dX9_worlds_25 (by decide) (Nat.le_of_ble_eq_true rfl) (sp_Model_baseOf M1 n' hn') (fun r25 M25 hq25 => ?_)
    refine z_withR (fun hR => ?_)
    have e25 := hq25.1.symm
    subst e25
    have q25 := hq25.2
    subst q25
    refine ziload_5_1 dX9_worlds_28 ?_
    refine zc_Model_172 rfl dX9_worlds_29 (by decide) (Nat.le_of_ble_eq_true rfl) (sp_Model_countOf M1 n' hn') (fun r29 M29 hq29 => ?_)
    refine z_withR (fun hR => ?_)
    have e29 := hq29.1.symm
    subst e29
    have q29 := hq29.2
    subst q29
    refine z_iadd dX9_worlds_32 ?_
    refine z_icmp_ge (tgt := 64) (by first | omega | exact hR.1 _ _ (by decide) | exact zrng_toInt _) (by first | omega | exact hR.1 _ _ (by decide) | exact zrng_toInt _) dX9_worlds_33 (by decide) (fun h33 => ?_) (fun h33 => ?_)
    · omega
    · refine ziload_5_2 dX9_worlds_36 ?_
      refine z_if_ne (tgt := 64) (by first | omega | exact hR.1 _ _ (by decide) | exact zrng_toInt _) dX9_worlds_37 (by decide) (fun h37 => ?_) (fun h37 => ?_)
      · refine z_iconst dX9_worlds_64 ?_
        refine zistore_5_4 dX9_worlds_65 ?_
        exact hz
      · exact absurd h37 (by decide)
  have lp1 : ∀ (M1 : zMem) (n' : Nat), okn n' → laid M1 B → (∀ r : Int, r = (fb_ct (fun k => bKp B (pb n' + k)) (cN n') : Nat) → post r M1) → ∀ (c k : Nat), k + c = cN n' → zV zd_Model_worlds 4 22 [some (zr 9), some (zi n'), some (zi 0), some (zi (fb_ct (fun k => bKp B (pb n' + k)) k : Nat)), some (zi ((pb n' + k : Nat) : Int))] [] M1 post := by
    intro M1 n' hn' hl done c
    have hs := hl.2.1
    have hn3 := hn'.le
    have hpb := pb_le hn'
    have hcn : cN n' ≤ 19683 := by rcases hn' with rfl | rfl | rfl <;> decide
    induction c with
    | zero =>
      intro k hk
      have htk := fb_ct_le (fun k => bKp B (pb n' + k)) k
      have hsr : zrng (M1 9 15) := by rw [hs]; unfold zrng; omega
      refine z_withR (fun hR => ?_)
      refine ziload_5_4 dX9_worlds_22 ?_
      refine ziload_5_1 dX9_worlds_24 ?_
      refine zc_Model_127 rfl dX9_worlds_25 (by decide) (Nat.le_of_ble_eq_true rfl) (sp_Model_baseOf M1 n' hn') (fun r25 M25 hq25 => ?_)
      refine z_withR (fun hR => ?_)
      have e25 := hq25.1.symm
      subst e25
      have q25 := hq25.2
      subst q25
      refine ziload_5_1 dX9_worlds_28 ?_
      refine zc_Model_172 rfl dX9_worlds_29 (by decide) (Nat.le_of_ble_eq_true rfl) (sp_Model_countOf M1 n' hn') (fun r29 M29 hq29 => ?_)
      refine z_withR (fun hR => ?_)
      have e29 := hq29.1.symm
      subst e29
      have q29 := hq29.2
      subst q29
      refine z_iadd dX9_worlds_32 ?_
      refine z_icmp_ge (tgt := 64) (by first | omega | exact hR.1 _ _ (by decide) | exact zrng_toInt _) (by first | omega | exact hR.1 _ _ (by decide) | exact zrng_toInt _) dX9_worlds_33 (by decide) (fun h33 => ?_) (fun h33 => ?_)
      · refine z_iconst dX9_worlds_64 ?_
        refine zistore_5_4 dX9_worlds_65 ?_
        refine ziload_5_4 dX9_worlds_67 ?_
        refine zaload_5_0 dX9_worlds_69 ?_
        refine zg_Model_157 rfl dX9_worlds_70 ?_
        refine z_top hs ?_
        refine z_icmp_ge (tgt := 108) (by first | omega | exact hR.1 _ _ (by decide) | exact zrng_toInt _) (by first | omega | exact hR.1 _ _ (by decide) | exact zrng_toInt _) dX9_worlds_73 (by decide) (fun h73 => ?_) (fun h73 => ?_)
        · refine ziload_5_3 dX9_worlds_108 ?_
          refine z_iret rfl ?_ dX9_worlds_109
          exact done _ (by rw [show k = cN n' by omega])
        · refine ziload_5_2 dX9_worlds_76 ?_
          refine z_if_eq (tgt := 108) (by first | omega | exact hR.1 _ _ (by decide) | exact zrng_toInt _) dX9_worlds_77 (by decide) (fun h77 => ?_) (fun h77 => ?_)
          · refine ziload_5_3 dX9_worlds_108 ?_
            refine z_iret rfl ?_ dX9_worlds_109
            exact done _ (by rw [show k = cN n' by omega])
          · exact absurd rfl h77
      · omega
    | succ c ih =>
      intro k hk
      have htk := fb_ct_le (fun k => bKp B (pb n' + k)) k
      obtain ⟨e1, e2, e3⟩ := pz_of hn' (show k < cN n' by omega)
      have hb := hl.1 (pb n' + k) e3
      have hbl : brN B (pb n' + k) < 2 ^ 6 := Nat.lt_of_lt_of_le (bm_lt _ _) (Nat.pow_le_pow_right (by decide) hP6)
      have hst := fb_ct_succ (fun k => bKp B (pb n' + k)) k
      have kk := ih (k + 1) (by omega)
      refine z_withR (fun hR => ?_)
      refine ziload_5_4 dX9_worlds_22 ?_
      refine ziload_5_1 dX9_worlds_24 ?_
      refine zc_Model_127 rfl dX9_worlds_25 (by decide) (Nat.le_of_ble_eq_true rfl) (sp_Model_baseOf M1 n' hn') (fun r25 M25 hq25 => ?_)
      refine z_withR (fun hR => ?_)
      have e25 := hq25.1.symm
      subst e25
      have q25 := hq25.2
      subst q25
      refine ziload_5_1 dX9_worlds_28 ?_
      refine zc_Model_172 rfl dX9_worlds_29 (by decide) (Nat.le_of_ble_eq_true rfl) (sp_Model_countOf M1 n' hn') (fun r29 M29 hq29 => ?_)
      refine z_withR (fun hR => ?_)
      have e29 := hq29.1.symm
      subst e29
      have q29 := hq29.2
      subst q29
      refine z_iadd dX9_worlds_32 ?_
      refine z_icmp_ge (tgt := 64) (by first | omega | exact hR.1 _ _ (by decide) | exact zrng_toInt _) (by first | omega | exact hR.1 _ _ (by decide) | exact zrng_toInt _) dX9_worlds_33 (by decide) (fun h33 => ?_) (fun h33 => ?_)
      · omega
      · refine ziload_5_2 dX9_worlds_36 ?_
        refine z_if_ne (tgt := 64) (by first | omega | exact hR.1 _ _ (by decide) | exact zrng_toInt _) dX9_worlds_37 (by decide) (fun h37 => ?_) (fun h37 => ?_)
        · exact absurd rfl h37
        · refine ziload_5_3 dX9_worlds_40 ?_
          refine zaload_5_0 dX9_worlds_41 ?_
          refine zg_Model_39 rfl dX9_worlds_42 ?_
          refine ziload_5_4 dX9_worlds_45 ?_
          refine z_iald _ rfl (by decide) (by decide) rfl (by omega) dX9_worlds_47 ?_
          refine z_top hb ?_
          refine z_if_ne (tgt := 55) (by first | omega | exact hR.1 _ _ (by decide) | exact zrng_toInt _) dX9_worlds_48 (by decide) (fun h48 => ?_) (fun h48 => ?_)
          · rw [hst, if_neg (fun z => h48 (by rw [brN_zero.mpr z]; rfl))] at kk
            refine z_iconst dX9_worlds_55 ?_
            refine z_iadd dX9_worlds_56 ?_
            refine zistore_5_3 dX9_worlds_57 ?_
            refine ziinc_5_4 dX9_worlds_58 ?_
            refine z_goto (tgt := 22) dX9_worlds_61 (by decide) ?_
            exact kk
          · rw [hst, if_pos (brN_zero.mp (by omega))] at kk
            refine z_iconst dX9_worlds_51 ?_
            refine z_goto (tgt := 56) dX9_worlds_52 (by decide) ?_
            refine z_iadd dX9_worlds_56 ?_
            refine zistore_5_3 dX9_worlds_57 ?_
            refine ziinc_5_4 dX9_worlds_58 ?_
            refine z_goto (tgt := 22) dX9_worlds_61 (by decide) ?_
            exact kk
  refine ziload_5_1 dX9_worlds_0 ?_
  refine zc_Model_169 rfl dX9_worlds_1 (by decide) (Nat.le_of_ble_eq_true rfl) (sp_Model_isSize M n hn) (fun r1 M1 hq1 => ?_)
  refine z_withR (fun hR => ?_)
  have e1 := hq1.1.symm
  subst e1
  have q1 := hq1.2
  have q1 := or_if q1
  refine z_if_ne (tgt := 10) (or_rng q1) dX9_worlds_4 (by decide) (fun h4 => ?_) (fun h4 => ?_)
  · have y := or_yes q1 h4
    obtain ⟨n', rfl⟩ : ∃ n' : Nat, n = n' := ⟨n.toNat, by omega⟩
    have hn' : okn n' := by unfold okn; omega
    refine zaload_5_0 dX9_worlds_10 ?_
    refine zc_Model_175 rfl dX9_worlds_11 (by decide) (Nat.le_of_ble_eq_true rfl) (sp_Model_layAll M B h.1.1 h.1.2.2.2.1 h.cache) (fun r11 M11 hq11 => ?_)
    refine z_withR (fun hR => ?_)
    obtain ⟨f12, g12, i12, l12, c12⟩ := hq11
    have hab := h.after f12 g12 i12 l12 c12
    have dn0 : ∀ r : Int, r = (fb_sm (wmF B n' o) (cC n') : Nat) → post r M11 := fun r hr => by rw [hpost]; exact ⟨by unfold fWorlds; rw [if_pos y, Int.toNat_natCast]; exact hr, f12.up (by decide), hab⟩
    refine z_iconst dX9_worlds_14 ?_
    refine zistore_5_3 dX9_worlds_15 ?_
    refine ziload_5_1 dX9_worlds_16 ?_
    refine zc_Model_127 rfl dX9_worlds_17 (by decide) (Nat.le_of_ble_eq_true rfl) (sp_Model_baseOf M11 n' hn') (fun r17 M17 hq17 => ?_)
    refine z_withR (fun hR => ?_)
    have e17 := hq17.1.symm
    subst e17
    have q17 := hq17.2
    subst q17
    refine zistore_5_4 dX9_worlds_20 ?_
    cases o
    · exact lp1 M11 n' hn' l12 (fun r hr => dn0 r (by rw [hr, worlds_sum hn' h.1.1.2.2.2.1 (fun l hl => (h.1.2.2.2.1.2.2 l hl).2)])) (cN n') 0 (by omega)
    · have hz := lp2 M11 n' hn' l12 (fun r hr => dn0 r (by rw [hr, wm_true, sz_all hn'])) (lT B) 0 (by omega)
      refine mid M11 n' hn' hz
  · have y := or_no q1 h4
    refine z_bipush dX9_worlds_7 (by decide) ?_
    refine z_iret rfl ?_ dX9_worlds_9
    rw [hpost]
    unfold fWorlds
    rw [if_neg y]
    exact ⟨rfl, zfr.rf, h⟩
