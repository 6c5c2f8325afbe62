/-! places and entries -/
def lsB (p : Nat) : Bool := lst (pz p) (pq p) == pq p
noncomputable def pe (e : Nat) : Nat := pb (eSz e) + eK e
noncomputable def bKp (B : Nat → Nat → Nat) (p : Nat) : Bool := decide (∀ l, l < B 3 0 → kp (B 1) (B 2) (pz p) (pq p) (B 4 l) (B 5 l) = true)
noncomputable def brN (B : Nat → Nat → Nat) (p : Nat) : Nat := bm (fun l => !kp (B 1) (B 2) (pz p) (pq p) (B 4 l) (B 5 l)) (B 3 0)
theorem bm_zero {f : Nat → Bool} {m : Nat} : bm f m = 0 ↔ ∀ i, i < m → f i = false := by
  constructor
  · intro h i hi
    have h2 := bm_bit f m i
    rw [h, Nat.zero_testBit] at h2
    simpa [hi] using h2.symm
  · intro h
    refine Nat.eq_of_testBit_eq (fun i => ?_)
    rw [bm_bit, Nat.zero_testBit]
    by_cases hi : i < m
    · rw [h i hi]; simp
    · simp [hi]
theorem brN_zero {B : Nat → Nat → Nat} {p : Nat} : brN B p = 0 ↔ bKp B p = true := by
  unfold brN bKp
  rw [bm_zero, decide_eq_true_iff]
  refine forall_congr' (fun l => forall_congr' (fun _ => ?_))
  simp
theorem pe_ok {e : Nat} (he : e < 3341) : pe e < 19700 ∧ pz (pe e) = eSz e ∧ pq (pe e) = eK e ∧ lsB (pe e) = true := by
  obtain ⟨h1, h2, h3⟩ := eK_ok he
  obtain ⟨k1, k2, k3⟩ := pz_of (okn_eSz e) h1
  refine ⟨k3, k1, k2, ?_⟩
  unfold lsB pe
  rw [k1, k2, h2]
  exact beq_self_eq_true _
theorem wK_pe {B : Nat → Nat → Nat} {e : Nat} (he : e < 3341) : bKp B (pe e) = wK B e := by
  obtain ⟨-, h2, h3, -⟩ := pe_ok he
  unfold bKp wK
  rw [h2, h3]
theorem ls_part {n : Nat} (hn : okn n) {k : Nat} (hk : k ≤ cN n) : fb_ct lsB (pb n + k) = fb_ct lsB (pb n) + cc n k := by
  rw [fb_ct_split]
  congr 1
  unfold cc
  refine fb_ct_cong (fun i hi => ?_)
  obtain ⟨k1, k2, k3⟩ := pz_of hn (show i < cN n by omega)
  unfold lsB
  rw [k1, k2]
theorem ls_base {n : Nat} (hn : okn n) : fb_ct lsB (pb n) = sT n := by
  have h1 : fb_ct lsB (pb 1) = sT 1 := rfl
  have h2 : fb_ct lsB (pb 2) = sT 2 := by
    have h := ls_part (n := 1) (Or.inl rfl) (Nat.le_refl (cN 1))
    rw [cc_all (Or.inl rfl), h1] at h
    exact h
  have h3 : fb_ct lsB (pb 3) = sT 3 := by
    have h := ls_part (n := 2) (Or.inr (Or.inl rfl)) (Nat.le_refl (cN 2))
    rw [cc_all (Or.inr (Or.inl rfl)), h2] at h
    exact h
  rcases hn with rfl | rfl | rfl
  · exact h1
  · exact h2
  · exact h3
theorem ls_all : fb_ct lsB 19700 = 3341 := by
  have h := ls_part (n := 3) (Or.inr (Or.inr rfl)) (Nat.le_refl (cN 3))
  rw [cc_all (Or.inr (Or.inr rfl)), ls_base (Or.inr (Or.inr rfl))] at h
  exact h
theorem ls_at {p : Nat} (hp : p < 19700) (hl : lsB p = true) : fb_ct lsB p < 3341 ∧ pe (fb_ct lsB p) = p := by
  have hn := pz_ok p
  have hk := pq_lt hp
  have e := (pq_at (p := p)).2
  have hl2 : lst (pz p) (pq p) = pq p := by unfold lsB at hl; exact beq_iff_eq.mp hl
  have h1 := ls_part hn (Nat.le_of_lt hk)
  rw [e, ls_base hn] at h1
  obtain ⟨i1, i2, i3⟩ := eI_ok hn hk hl2
  have h2 : fb_ct lsB p = eI (pz p) (pq p) := h1
  rw [h2]
  refine ⟨i1, ?_⟩
  unfold pe
  rw [i2, i3]
  exact e
theorem ct_sub {s g : Nat → Bool} {f : Nat → Nat} : ∀ {P : Nat}, (∀ p, p < P → s p = true → f (fb_ct s p) = p) → fb_ct (fun p => s p && g p) P = fb_ct (fun e => g (f e)) (fb_ct s P)
  | 0, _ => rfl
  | P + 1, h => by
    have ih := ct_sub (s := s) (g := g) (f := f) (P := P) (fun p hp => h p (by omega))
    rw [fb_ct_succ, fb_ct_succ s, ih]
    cases hs : s P
    · simp
    · simp only [Bool.true_and, if_true]
      rw [fb_ct_succ, h P (by omega) hs]
noncomputable def qPl (B : Nat → Nat → Nat) (p : Nat) : Bool := lsB p && bKp B p
noncomputable def lT (B : Nat → Nat → Nat) : Nat := fb_ct (wK B) 3341
theorem qPl_ct {B : Nat → Nat → Nat} {P : Nat} (hP : P ≤ 19700) : fb_ct (qPl B) P = fb_ct (wK B) (fb_ct lsB P) := by
  have h := ct_sub (s := lsB) (g := bKp B) (f := pe) (P := P) (fun p hp hs => (ls_at (by omega) hs).2)
  have h2 : fb_ct lsB P ≤ 3341 := by rw [← ls_all]; exact fb_ct_mono _ hP
  have h3 : fb_ct (fun e => bKp B (pe e)) (fb_ct lsB P) = fb_ct (wK B) (fb_ct lsB P) := fb_ct_cong (fun e he => wK_pe (by omega))
  rw [← h3, ← h]
  rfl
theorem lE_okA {q : Nat → Bool} {j : Nat} (hj : j < fb_ct q 3341) : lE q j < 3341 ∧ q (lE q j) = true ∧ fb_ct q (lE q j) = j := by
  obtain ⟨i, h1, h2, h3⟩ := fb_ct_kth hj
  exact Classical.epsilon_spec (p := fun e => e < 3341 ∧ q e = true ∧ fb_ct q e = j) ⟨i, h1, h2, h3⟩
/-- the j-th listed place -/
theorem qPl_at {B : Nat → Nat → Nat} {j : Nat} (hj : j < lT B) : qPl B (pe (lE (wK B) j)) = true ∧ fb_ct (qPl B) (pe (lE (wK B) j)) = j ∧ pe (lE (wK B) j) < 19700 := by
  obtain ⟨h1, h2, h3⟩ := lE_okA hj
  obtain ⟨k1, k2, k3, k4⟩ := pe_ok h1
  refine ⟨?_, ?_, k1⟩
  · unfold qPl
    rw [k4, wK_pe h1, h2]; rfl
  · rw [qPl_ct (Nat.le_of_lt k1)]
    have h5 := ls_part (okn_eSz (lE (wK B) j)) (Nat.le_of_lt (eK_ok h1).1)
    rw [ls_base (okn_eSz _)] at h5
    have h6 := (eK_ok h1).2.2
    have h7 : fb_ct lsB (pe (lE (wK B) j)) = lE (wK B) j := by
      show fb_ct lsB (pb (eSz (lE (wK B) j)) + eK (lE (wK B) j)) = _
      rw [h5, h6]
    rw [h7]; exact h3
theorem qPl_all {B : Nat → Nat → Nat} : fb_ct (qPl B) 19700 = lT B := by
  rw [qPl_ct (Nat.le_refl _), ls_all]
  rfl
def lwR (M : zMem) (T P : Nat) (LA LB : Nat → Nat) : Prop := M 9 4 = P ∧ P ≤ 6 ∧ ∀ l, l < P → (M 38 l = LA l ∧ M 39 l = LB l) ∧ LA l < T ∧ LB l < T
def laid (M : zMem) (B : Nat → Nat → Nat) : Prop := (∀ p, p < 19700 → M 43 p = brN B p) ∧ M 9 15 = lT B ∧ ∀ j, j < lT B → M 46 j = pe (lE (wK B) j)
theorem laid.fr {S : List Nat} {M M' : zMem} {B : Nat → Nat → Nat} (h : laid M B) (hf : zfr S M M') (h9 : M' 9 15 = M 9 15) (h43 : 43 ∉ S) (h46 : 46 ∉ S) : laid M' B := by
  unfold laid
  rw [h9, hf _ h43, hf _ h46]
  exact h
theorem lwR.fr {S : List Nat} {M M' : zMem} {T P : Nat} {LA LB : Nat → Nat} (h : lwR M T P LA LB) (hf : zfr S M M') (h9 : M' 9 4 = M 9 4) (h38 : 38 ∉ S) (h39 : 39 ∉ S) : lwR M' T P LA LB := by
  unfold lwR
  rw [h9, hf _ h38, hf _ h39]
  exact h
theorem sp_Model_layAll (M : zMem) (B : Nat → Nat → Nat) (hT : tmR M (B 1) (B 2) (B 0 0)) (hP : lwR M (B 0 0) (B 3 0) (B 4) (B 5)) (hl : M 9 7 = 0 ∨ M 9 7 = 1 ∧ laid M B) : zSp zd_Model_layAll 3 [zr 9] M (fun _ M' => zfr [9, 40, 41, 42, 43, 45, 46] M M' ∧ (∀ i, i ≠ 7 → i ≠ 8 → i ≠ 15 → i ≠ 25 → M' 9 i = M 9 i) ∧ M' 9 7 = 1 ∧ laid M' B ∧ (M 9 7 = 1 ∧ M' = M ∨ M' 9 25 = 0)) := by
  refine zSp_in 1 [some (zr 9), none] rfl rfl (by decide +kernel) rfl ?_
  refine z_withR (fun hR => ?_)
  obtain ⟨post, hpost⟩ : ∃ post : Int → zMem → Prop, post = (fun (_ : Int) M' => zfr [9, 40, 41, 42, 43, 45, 46] M M' ∧ (∀ i, i ≠ 7 → i ≠ 8 → i ≠ 15 → i ≠ 25 → M' 9 i = M 9 i) ∧ M' 9 7 = 1 ∧ laid M' B ∧ (M 9 7 = 1 ∧ M' = M ∨ M' 9 25 = 0)) := ⟨_, rfl⟩
  rw [← hpost]
  have hlr : M 9 7 = 0 ∨ M 9 7 = 1 := hl.imp id And.left
  have hP6 := hP.2.1
  have loop : ∀ (c p : Nat) (M1 : zMem), p + c = 19700 → zfr [9, 40, 41, 42, 43, 45, 46] M M1 → (∀ i, i ≠ 8 → i ≠ 15 → M1 9 i = M 9 i) → (∀ p, p < 19700 → M1 43 p = brN B p) → M1 9 15 = (fb_ct (qPl B) p : Nat) → (∀ p', p' < p → qPl B p' = true → M1 46 (fb_ct (qPl B) p') = p') → zV zd_Model_layAll 3 35 [some (zr 9), some (zi p)] [] M1 post := by
    intro c
    induction c with
    | zero =>
      intro p M1 hp hf h9 hb hn hat
      refine z_withR (fun hR => ?_)
      refine ziload_2_1 dX9_layAll_35 ?_
      refine z_sipush dX9_layAll_36 (by decide) ?_
      refine z_icmp_ge (tgt := 98) (by first | omega | exact hR.1 _ _ (by decide) | exact zrng_toInt _) (by first | omega | exact hR.1 _ _ (by decide) | exact zrng_toInt _) dX9_layAll_39 (by decide) (fun h39 => ?_) (fun h39 => ?_)
      · refine zaload_2_0 dX9_layAll_98 ?_
        refine z_iconst dX9_layAll_99 ?_
        refine zp_Model_116 rfl (by first | omega | exact hR.1 _ _ (by decide) | exact zrng_toInt _) dX9_layAll_100 ?_
        refine z_withR (fun hR => ?_)
        refine zaload_2_0 dX9_layAll_103 ?_
        refine z_iconst dX9_layAll_104 ?_
        refine zp_Model_164 rfl (by first | omega | exact hR.1 _ _ (by decide) | exact zrng_toInt _) dX9_layAll_105 ?_
        refine z_withR (fun hR => ?_)
        refine z_vret rfl ?_ dX9_layAll_108
        rw [hpost]
        have e : p = 19700 := by omega
        refine ⟨(hf.mu (by decide)).mu (by decide), fun i h1 h2 h3 h4 => ?_, ?_, ⟨fun p hp => ?_, ?_, fun j hj => ?_⟩, Or.inr (zmu_same _ _ _ _)⟩
        · rw [zmu_ne _ _ _ _ h4, zmu_ne _ _ _ _ h1]; exact h9 i h2 h3
        · rw [zmu_ne _ _ _ _ (by decide), zmu_same]
        · rw [zmu_other _ _ _ _ (by decide), zmu_other _ _ _ _ (by decide)]; exact hb p hp
        · rw [zmu_ne _ _ _ _ (by decide), zmu_ne _ _ _ _ (by decide), hn, e, qPl_all]
        · rw [zmu_other _ _ _ _ (by decide), zmu_other _ _ _ _ (by decide)]
          obtain ⟨q1, q2, q3⟩ := qPl_at hj
          have := hat _ (by omega) q1
          rw [q2] at this
          exact this
      · omega
    | succ c ih =>
      intro p M1 hp hf h9 hb hn hat
      have hbp := hb p (by omega)
      have hbl : brN B p < 2 ^ 6 := Nat.lt_of_lt_of_le (bm_lt _ _) (Nat.pow_le_pow_right (by decide) hP6)
      have hst := fb_ct_succ (qPl B) p
      have hle := fb_ct_le (qPl B) p
      have k92 : ∀ M2, zfr [9, 40, 41, 42, 43, 45, 46] M M2 → (∀ i, i ≠ 8 → i ≠ 15 → M2 9 i = M 9 i) → (∀ p, p < 19700 → M2 43 p = brN B p) → M2 9 15 = (fb_ct (qPl B) (p + 1) : Nat) → (∀ p', p' < p + 1 → qPl B p' = true → M2 46 (fb_ct (qPl B) p') = p') → zV zd_Model_layAll 3 92 [some (zr 9), some (zi p)] [] M2 post := by
        intro M2 a1 a2 a3 a4 a5
        refine z_withR (fun hR => ?_)
        refine ziinc_2_1 dX9_layAll_92 ?_
        refine z_goto (tgt := 35) dX9_layAll_95 (by decide) ?_
        exact ih (p + 1) M2 (by omega) a1 a2 a3 a4 a5
      have no : ∀ M2, zfr [9, 40, 45] M1 M2 → (∀ i, i ≠ 8 → M2 9 i = M1 9 i) → qPl B p = false → zV zd_Model_layAll 3 92 [some (zr 9), some (zi p)] [] M2 post := by
        intro M2 a1 a2 hq
        rw [hq] at hst
        refine k92 M2 (hf.tr a1 (by decide) (by decide)) (fun i h1 h2 => by rw [a2 i h1]; exact h9 i h1 h2) (fun p hp => by rw [a1 43 (by decide)]; exact hb p hp) ?_ (fun p' hp' hq' => ?_)
        · rw [a2 15 (by decide), hn, hst]; rfl
        · rw [a1 46 (by decide)]
          by_cases e : p' = p
          · rw [e, hq] at hq'; exact absurd hq' (by decide)
          · exact hat p' (by omega) hq'
      refine z_withR (fun hR => ?_)
      refine ziload_2_1 dX9_layAll_35 ?_
      refine z_sipush dX9_layAll_36 (by decide) ?_
      refine z_icmp_ge (tgt := 98) (by first | omega | exact hR.1 _ _ (by decide) | exact zrng_toInt _) (by first | omega | exact hR.1 _ _ (by decide) | exact zrng_toInt _) dX9_layAll_39 (by decide) (fun h39 => ?_) (fun h39 => ?_)
      · omega
      · refine zaload_2_0 dX9_layAll_42 ?_
        refine zg_Model_39 rfl dX9_layAll_43 ?_
        refine ziload_2_1 dX9_layAll_46 ?_
        refine z_iald _ rfl (by decide) (by decide) rfl (by omega) dX9_layAll_47 ?_
        refine z_top hbp ?_
        refine z_if_ne (tgt := 92) (by first | omega | exact hR.1 _ _ (by decide) | exact zrng_toInt _) dX9_layAll_48 (by decide) (fun h48 => ?_) (fun h48 => ?_)
        · have hq : qPl B p = false := by
            unfold qPl
            have : ¬ bKp B p = true := fun z => h48 (by rw [brN_zero.mpr z]; rfl)
            simp only [Bool.not_eq_true] at this
            rw [this]; simp
          first
            | exact no M1 zfr.rf (fun _ _ => rfl) hq
            | exact no M57 ff gg hq
            | (rw [hq] at hst
               refine k92 _ ((hf.tr ff (by decide) (by decide)).mu (by decide) |>.mu (by decide)) (fun i h1 h2 => ?_) (fun p hp => ?_) ?_ (fun p' hp' hq' => ?_)
               · rw [zmu_ne _ _ _ _ h2, zmu_other _ _ _ _ (by decide), gg i h1]; exact h9 i h1 h2
               · rw [zmu_other _ _ _ _ (by decide), zmu_other _ _ _ _ (by decide), ff 43 (by decide)]; exact hb p hp
               · rw [zmu_same, hst]; rfl
               · rw [zmu_other _ _ _ _ (by decide)]
                 by_cases e : p' = p
                 · rw [e, zmu_same]
                 · have hne : fb_ct (qPl B) p' ≠ fb_ct (qPl B) p := fun z => e (fb_ct_kth_one hq' hq z)
                   rw [zmu_ne _ _ _ _ hne, ff 46 (by decide)]
                   exact hat p' (by omega) hq')
        · have hK : bKp B p = true := brN_zero.mp (by omega)
          refine zaload_2_0 dX9_layAll_51 ?_
          refine ziload_2_1 dX9_layAll_52 ?_
          refine zc_Model_138 rfl dX9_layAll_53 (by decide) (Nat.le_of_ble_eq_true rfl) (sp_Model_layWorld M1 p (by omega)) (fun r53 M53 hq53 => ?_)
          refine z_withR (fun hR => ?_)
          obtain ⟨f53, g53, t53⟩ := hq53
          refine zaload_2_0 dX9_layAll_56 ?_
          refine zc_Model_160 rfl dX9_layAll_57 (by decide) (Nat.le_of_ble_eq_true rfl) (sp_Model_leastName M53 (pz p) (pq p) (pz_ok p) (pq_lt (by omega)) t53) (fun r57 M57 hq57 => ?_)
          refine z_withR (fun hR => ?_)
          obtain ⟨f57, q57⟩ := hq57
          have hsz : M57 9 8 = pz p := by rw [f57 9 (by decide)]; exact t53.1
          have hpa := (pq_at (p := p)).2
          have hll := lst_lt (n := pz p) (k := pq p) (pz_ok p)
          have hcn : pz p ^ (pz p * pz p) ≤ 19683 := by rcases pz_ok p with h | h | h <;> rw [h] <;> decide
          have ff : zfr [9, 40, 45] M1 M57 := f53.tr f57 (by decide) (by decide)
          have gg : ∀ i, i ≠ 8 → M57 9 i = M1 9 i := fun i hi => by rw [f57 9 (by decide)]; exact g53 i hi
          have hn7 : M57 9 15 = (fb_ct (qPl B) p : Nat) := by rw [gg 15 (by decide)]; exact hn
          subst q57
          refine ziload_2_1 dX9_layAll_60 ?_
          refine zaload_2_0 dX9_layAll_61 ?_
          refine zg_Model_124 rfl dX9_layAll_62 ?_
          refine z_top hsz ?_
          refine zc_Model_127 rfl dX9_layAll_65 (by decide) (Nat.le_of_ble_eq_true rfl) (sp_Model_baseOf M57 (pz p) (pz_ok p)) (fun r65 M65 hq65 => ?_)
          refine z_withR (fun hR => ?_)
          have e65 := hq65.1.symm
          subst e65
          have q65 := hq65.2
          subst q65
          refine z_isub dX9_layAll_68 ?_
          refine z_icmp_ne (tgt := 92) (by first | omega | exact hR.1 _ _ (by decide) | exact zrng_toInt _) (by first | omega | exact hR.1 _ _ (by decide) | exact zrng_toInt _) dX9_layAll_69 (by decide) (fun h69 => ?_) (fun h69 => ?_)
          · have hq : qPl B p = false := by
              unfold qPl lsB
              have : ¬ lst (pz p) (pq p) = pq p := fun z => h69 (by omega)
              simp [this]
            first
              | exact no M1 zfr.rf (fun _ _ => rfl) hq
              | exact no M57 ff gg hq
              | (rw [hq] at hst
                 refine k92 _ ((hf.tr ff (by decide) (by decide)).mu (by decide) |>.mu (by decide)) (fun i h1 h2 => ?_) (fun p hp => ?_) ?_ (fun p' hp' hq' => ?_)
                 · rw [zmu_ne _ _ _ _ h2, zmu_other _ _ _ _ (by decide), gg i h1]; exact h9 i h1 h2
                 · rw [zmu_other _ _ _ _ (by decide), zmu_other _ _ _ _ (by decide), ff 43 (by decide)]; exact hb p hp
                 · rw [zmu_same, hst]; rfl
                 · rw [zmu_other _ _ _ _ (by decide)]
                   by_cases e : p' = p
                   · rw [e, zmu_same]
                   · have hne : fb_ct (qPl B) p' ≠ fb_ct (qPl B) p := fun z => e (fb_ct_kth_one hq' hq z)
                     rw [zmu_ne _ _ _ _ hne, ff 46 (by decide)]
                     exact hat p' (by omega) hq')
          · have hq : qPl B p = true := by
              unfold qPl lsB
              have : lst (pz p) (pq p) = pq p := by omega
              simp [this, hK]
            refine zaload_2_0 dX9_layAll_72 ?_
            refine zg_Model_48 rfl dX9_layAll_73 ?_
            refine zaload_2_0 dX9_layAll_76 ?_
            refine zg_Model_157 rfl dX9_layAll_77 ?_
            refine z_top hn7 ?_
            refine ziload_2_1 dX9_layAll_80 ?_
            refine z_iast _ (by decide) rfl (by decide) (by decide) rfl (by omega) (by first | omega | exact hR.1 _ _ (by decide) | exact zrng_toInt _) dX9_layAll_81 ?_
            refine z_withR (fun hR => ?_)
            refine zaload_2_0 dX9_layAll_82 ?_
            refine z_dup (fun _ => rfl) dX9_layAll_83 ?_
            refine zg_Model_157 rfl dX9_layAll_84 ?_
            refine z_top hn7 ?_
            refine z_iconst dX9_layAll_87 ?_
            refine z_iadd dX9_layAll_88 ?_
            refine zp_Model_157 rfl (by first | omega | exact hR.1 _ _ (by decide) | exact zrng_toInt _) dX9_layAll_89 ?_
            refine z_withR (fun hR => ?_)
            first
              | exact no M1 zfr.rf (fun _ _ => rfl) hq
              | exact no M57 ff gg hq
              | (rw [hq] at hst
                 refine k92 _ ((hf.tr ff (by decide) (by decide)).mu (by decide) |>.mu (by decide)) (fun i h1 h2 => ?_) (fun p hp => ?_) ?_ (fun p' hp' hq' => ?_)
                 · rw [zmu_ne _ _ _ _ h2, zmu_other _ _ _ _ (by decide), gg i h1]; exact h9 i h1 h2
                 · rw [zmu_other _ _ _ _ (by decide), zmu_other _ _ _ _ (by decide), ff 43 (by decide)]; exact hb p hp
                 · rw [zmu_same, hst]; rfl
                 · rw [zmu_other _ _ _ _ (by decide)]
                   by_cases e : p' = p
                   · rw [e, zmu_same]
                   · have hne : fb_ct (qPl B) p' ≠ fb_ct (qPl B) p := fun z => e (fb_ct_kth_one hq' hq z)
                     rw [zmu_ne _ _ _ _ hne, ff 46 (by decide)]
                     exact hat p' (by omega) hq')
  have hPl : M 9 4 = (B 3 0 : Nat) := hP.1
  refine zaload_2_0 dX9_layAll_0 ?_
  refine zg_Model_116 rfl dX9_layAll_1 ?_
  refine z_if_eq (tgt := 8) (by rcases hlr with h | h <;> rw [h] <;> decide) dX9_layAll_4 (by decide) (fun h4 => ?_) (fun h4 => ?_)
  · refine zaload_2_0 dX9_layAll_8 ?_
    refine zaload_2_0 dX9_layAll_9 ?_
    refine zg_Model_39 rfl dX9_layAll_10 ?_
    refine zaload_2_0 dX9_layAll_13 ?_
    refine zg_Model_23 rfl dX9_layAll_14 ?_
    refine zaload_2_0 dX9_layAll_17 ?_
    refine zg_Model_26 rfl dX9_layAll_18 ?_
    refine zaload_2_0 dX9_layAll_21 ?_
    refine zg_Model_113 rfl dX9_layAll_22 ?_
    refine z_top hPl ?_
    refine zc_Model_153 rfl dX9_layAll_25 (by decide) (Nat.le_of_ble_eq_true rfl) (sp_Model_layBroken1 M (B 1) (B 2) (B 4) (B 5) (B 0 0) (B 3 0) hT hP6 hP.2.2) (fun r25 M25 hq25 => ?_)
    refine z_withR (fun hR => ?_)
    obtain ⟨f25, g25, b25⟩ := hq25
    refine zaload_2_0 dX9_layAll_28 ?_
    refine z_iconst dX9_layAll_29 ?_
    refine zp_Model_157 rfl (by first | omega | exact hR.1 _ _ (by decide) | exact zrng_toInt _) dX9_layAll_30 ?_
    refine z_withR (fun hR => ?_)
    refine z_iconst dX9_layAll_33 ?_
    refine zistore_2_1 dX9_layAll_34 ?_
    exact loop 19700 0 _ (by omega) ((f25.up (by decide)).mu (by decide)) (fun i h1 h2 => by rw [zmu_ne _ _ _ _ h2]; exact g25 i h1) (fun p hp => by rw [zmu_other _ _ _ _ (by decide)]; exact b25 p hp) (zmu_same _ _ _ _) (fun p' h => absurd h (Nat.not_lt_zero _))
  · refine z_vret rfl ?_ dX9_layAll_7
    rw [hpost]
    have h1 := hl.resolve_left h4
    exact ⟨zfr.rf, fun i _ _ _ _ => rfl, h1.1, h1.2, Or.inl ⟨h1.1, rfl⟩⟩
