/-! what the laws make of one another -/
def imI (L R : Nat → Nat) (T x y z t : Nat) : Int := match im L R T x y z t with | some v => (v : Int) | none => -9
theorem im_lt {L R : Nat → Nat} {T x y z t m : Nat} (hw : wfT L R T) (hu : uqT L R T) (hx : x < T) (hy : y < T) (hz : z < T) (ht : t < T) (h : im L R T x y z t = some m) : m < T := by
  by_cases h3 : 3 ≤ t
  · exact ((im_some hw hu h3 ht).mp h).2.1
  · rcases (show t = 0 ∨ t = 1 ∨ t = 2 by omega) with rfl | rfl | rfl
    · have e : im L R T x y z 0 = some x := rfl
      rw [e] at h; cases h; exact hx
    · have e : im L R T x y z 1 = some y := rfl
      rw [e] at h; cases h; exact hy
    · have e : im L R T x y z 2 = some z := rfl
      rw [e] at h; cases h; exact hz
theorem imI_rng {L R : Nat → Nat} {T x y z t : Nat} (hw : wfT L R T) (hu : uqT L R T) (hx : x < T) (hy : y < T) (hz : z < T) (ht : t < T) : imI L R T x y z t = -9 ∨ (0 ≤ imI L R T x y z t ∧ imI L R T x y z t < T) := by
  unfold imI
  cases h : im L R T x y z t with
  | none => exact Or.inl rfl
  | some m =>
    have := im_lt hw hu hx hy hz ht h
    simp only
    omega
theorem imI_some {L R : Nat → Nat} {T x y z t m : Nat} : imI L R T x y z t = (m : Int) ↔ im L R T x y z t = some m := by
  unfold imI
  cases h : im L R T x y z t with
  | none =>
    simp only
    constructor
    · intro z; omega
    · intro z; cases z
  | some v =>
    simp only [Option.some.injEq]
    omega
theorem imI_rec {L R : Nat → Nat} {T x y z t : Nat} (hw : wfT L R T) (h3 : 3 ≤ t) (ht : t < T) : imI L R T x y z t = if imI L R T x y z (L t) = -9 ∨ imI L R T x y z (R t) = -9 then -9 else jdI L R T (imI L R T x y z (L t)).toNat (imI L R T x y z (R t)).toNat := by
  unfold imI
  rw [im_rec hw h3 ht]
  cases h1 : im L R T x y z (L t) with
  | none => simp
  | some a =>
    cases h2 : im L R T x y z (R t) with
    | none => simp
    | some b =>
      have n1 : ¬ ((a : Int) = -9 ∨ (b : Int) = -9) := by omega
      simp only [if_neg n1, Int.toNat_natCast]
      rfl
theorem jdI_rng {L R : Nat → Nat} {T a b : Nat} (hu : uqT L R T) : jdI L R T a b = -9 ∨ (0 ≤ jdI L R T a b ∧ jdI L R T a b < T) := by
  unfold jdI
  cases h : jd L R T a b with
  | none => exact Or.inl rfl
  | some m =>
    have := ((jd_some hu).mp h).2.1
    simp only
    omega
theorem sp_Model_layImage (M : zMem) (L R : Nat → Nat) (T x y z : Nat) (hT : tmR M L R T) (hu : uqT L R T) (hJ : ∀ a b, a < 20 → b < 20 → M 37 (20 * a + b) = jdI L R T a b) (hx : x < T) (hy : y < T) (hz : z < T) : zSp zd_Model_layImage 0 [zr 9, zi x, zi y, zi z] M (fun _ M' => zfr [63] M M' ∧ ∀ t, t < T → M' 63 t = imI L R T x y z t) := by
  refine zSp_in 3 [some (zr 9), some (zi x), some (zi y), some (zi z), none, none, none] rfl rfl (by decide +kernel) rfl ?_
  refine z_withR (fun hR => ?_)
  obtain ⟨t1, t2, t3, t4, t5⟩ := id hT
  obtain ⟨F, hF⟩ : ∃ F, F = imI L R T x y z := ⟨_, rfl⟩
  have hrng : ∀ t, t < T → F t = -9 ∨ (0 ≤ F t ∧ F t < T) := fun t ht => by rw [hF]; exact imI_rng t4 hu hx hy hz ht
  have hrec : ∀ t, 3 ≤ t → t < T → F t = if F (L t) = -9 ∨ F (R t) = -9 then -9 else jdI L R T (F (L t)).toNat (F (R t)).toNat := fun t h3 ht => by rw [hF]; exact imI_rec t4 h3 ht
  have hF0 : F 0 = x := by rw [hF]; rfl
  have hF1 : F 1 = y := by rw [hF]; rfl
  have hF2 : F 2 = z := by rw [hF]; rfl
  rw [← hF]
  obtain ⟨post, hpost⟩ : ∃ post : Int → zMem → Prop, post = (fun (_ : Int) M' => zfr [63] M M' ∧ ∀ t, t < T → M' 63 t = F t) := ⟨_, rfl⟩
  rw [← hpost]
  have loop : ∀ (c t : Nat) (M1 : zMem) (l5 l6 : Option zAV), t + c = T → 3 ≤ t → zfr [63] M M1 → (∀ t', t' < t → M1 63 t' = F t') → zV zd_Model_layImage 0 24 [some (zr 9), some (zi x), some (zi y), some (zi z), some (zi t), l5, l6] [] M1 post := by
    intro c
    induction c with
    | zero =>
      intro t M1 l5 l6 ht h3 f1 h1
      have e1 : M1 9 0 = T := by rw [f1 9 (by decide)]; exact t1
      refine z_withR (fun hR => ?_)
      refine ziload_7_4 dX9_layImage_24 ?_
      refine zaload_7_0 dX9_layImage_26 ?_
      refine zg_Model_7 rfl dX9_layImage_27 ?_
      refine z_top e1 ?_
      refine z_icmp_ge (tgt := 106) (by first | omega | exact hR.1 _ _ (by decide) | exact zrng_toInt _) (by first | omega | exact hR.1 _ _ (by decide) | exact zrng_toInt _) dX9_layImage_30 (by decide) (fun h30 => ?_) (fun h30 => ?_)
      · refine z_vret rfl ?_ dX9_layImage_106
        rw [hpost]
        exact ⟨f1, fun t' ht' => h1 t' (by omega)⟩
      · omega
    | succ c ih =>
      intro t M1 l5 l6 ht h3 f1 h1
      have e1 : M1 9 0 = T := by rw [f1 9 (by decide)]; exact t1
      have e35 : M1 35 t = L t := by rw [f1 35 (by decide)]; exact (t5 t h3 (by omega)).1
      have e36 : M1 36 t = R t := by rw [f1 36 (by decide)]; exact (t5 t h3 (by omega)).2
      obtain ⟨w1, w2⟩ := t4 t h3 (by omega)
      have eL := h1 (L t) w1
      have eR := h1 (R t) w2
      have hr := hrec t h3 (by omega)
      have hrL := hrng (L t) (by omega)
      have hrR := hrng (R t) (by omega)
      obtain ⟨a, ha⟩ : ∃ a, a = F (L t) := ⟨_, rfl⟩
      obtain ⟨b, hb⟩ : ∃ b, b = F (R t) := ⟨_, rfl⟩
      rw [← ha] at eL hr hrL
      rw [← hb] at eR hr hrR
      have hjr := jdI_rng (a := a.toNat) (b := b.toNat) hu
      refine z_withR (fun hR => ?_)
      refine ziload_7_4 dX9_layImage_24 ?_
      refine zaload_7_0 dX9_layImage_26 ?_
      refine zg_Model_7 rfl dX9_layImage_27 ?_
      refine z_top e1 ?_
      refine z_icmp_ge (tgt := 106) (by first | omega | exact hR.1 _ _ (by decide) | exact zrng_toInt _) (by first | omega | exact hR.1 _ _ (by decide) | exact zrng_toInt _) dX9_layImage_30 (by decide) (fun h30 => ?_) (fun h30 => ?_)
      · omega
      · refine zaload_7_0 dX9_layImage_33 ?_
        refine zg_Model_99 rfl dX9_layImage_34 ?_
        refine zaload_7_0 dX9_layImage_37 ?_
        refine zg_Model_13 rfl dX9_layImage_38 ?_
        refine ziload_7_4 dX9_layImage_41 ?_
        refine z_iald _ rfl (by decide) (by decide) rfl (by omega) dX9_layImage_43 ?_
        refine z_top e35 ?_
        refine z_iald _ rfl (by decide) (by decide) rfl (by omega) dX9_layImage_44 ?_
        refine z_top eL ?_
        refine zistore_7_5 dX9_layImage_45 ?_
        refine zaload_7_0 dX9_layImage_47 ?_
        refine zg_Model_99 rfl dX9_layImage_48 ?_
        refine zaload_7_0 dX9_layImage_51 ?_
        refine zg_Model_17 rfl dX9_layImage_52 ?_
        refine ziload_7_4 dX9_layImage_55 ?_
        refine z_iald _ rfl (by decide) (by decide) rfl (by omega) dX9_layImage_57 ?_
        refine z_top e36 ?_
        refine z_iald _ rfl (by decide) (by decide) rfl (by omega) dX9_layImage_58 ?_
        refine z_top eR ?_
        refine zistore_7_6 dX9_layImage_59 ?_
        refine zaload_7_0 dX9_layImage_61 ?_
        refine zg_Model_99 rfl dX9_layImage_62 ?_
        refine ziload_7_4 dX9_layImage_65 ?_
        refine ziload_7_5 dX9_layImage_67 ?_
        refine z_bipush dX9_layImage_69 (by decide) ?_
        refine z_icmp_eq (tgt := 81) (by first | omega | exact hR.1 _ _ (by decide) | exact zrng_toInt _) (by first | omega | exact hR.1 _ _ (by decide) | exact zrng_toInt _) dX9_layImage_71 (by decide) (fun h71 => ?_) (fun h71 => ?_)
        · have hv : (-9 : Int) = F t := by rw [hr, if_pos (Or.inl h71)]
          refine z_bipush dX9_layImage_81 (by decide) ?_
          refine z_goto (tgt := 99) dX9_layImage_83 (by decide) ?_
          refine z_top hv ?_
          refine z_iast _ (by decide) rfl (by decide) (by decide) rfl (by omega) (by rw [← hv]; omega) dX9_layImage_99 ?_
          refine z_withR (fun hR => ?_)
          refine ziinc_7_4 dX9_layImage_100 ?_
          refine z_goto (tgt := 24) dX9_layImage_103 (by decide) ?_
          refine ih (t + 1) _ _ _ (by omega) (by omega) (f1.mu (by decide)) (fun t' ht' => ?_)
          by_cases e : t' = t
          · rw [e, zmu_same]
          · rw [zmu_ne _ _ _ _ e]; exact h1 t' (by omega)
        · refine ziload_7_6 dX9_layImage_74 ?_
          refine z_bipush dX9_layImage_76 (by decide) ?_
          refine z_icmp_ne (tgt := 86) (by first | omega | exact hR.1 _ _ (by decide) | exact zrng_toInt _) (by first | omega | exact hR.1 _ _ (by decide) | exact zrng_toInt _) dX9_layImage_78 (by decide) (fun h78 => ?_) (fun h78 => ?_)
          · have hv : jdI L R T a.toNat b.toNat = F t := by rw [hr, if_neg (by omega)]
            have hjm : M1 37 (20 * a.toNat + b.toNat) = jdI L R T a.toNat b.toNat := by rw [f1 37 (by decide)]; exact hJ _ _ (by omega) (by omega)
            refine zaload_7_0 dX9_layImage_86 ?_
            refine zg_Model_20 rfl dX9_layImage_87 ?_
            refine z_bipush dX9_layImage_90 (by decide) ?_
            refine ziload_7_5 dX9_layImage_92 ?_
            refine z_imul dX9_layImage_94 ?_
            refine ziload_7_6 dX9_layImage_95 ?_
            refine z_iadd dX9_layImage_97 ?_
            refine z_iald (20 * a.toNat + b.toNat) rfl (by decide) (by decide) (by omega) (by omega) dX9_layImage_98 ?_
            refine z_top hjm ?_
            refine z_top hv ?_
            refine z_iast _ (by decide) rfl (by decide) (by decide) rfl (by omega) (by rw [← hv]; omega) dX9_layImage_99 ?_
            refine z_withR (fun hR => ?_)
            refine ziinc_7_4 dX9_layImage_100 ?_
            refine z_goto (tgt := 24) dX9_layImage_103 (by decide) ?_
            refine ih (t + 1) _ _ _ (by omega) (by omega) (f1.mu (by decide)) (fun t' ht' => ?_)
            by_cases e : t' = t
            · rw [e, zmu_same]
            · rw [zmu_ne _ _ _ _ e]; exact h1 t' (by omega)
          · have hv : (-9 : Int) = F t := by rw [hr, if_pos (Or.inr h78)]
            refine z_bipush dX9_layImage_81 (by decide) ?_
            refine z_goto (tgt := 99) dX9_layImage_83 (by decide) ?_
            refine z_top hv ?_
            refine z_iast _ (by decide) rfl (by decide) (by decide) rfl (by omega) (by rw [← hv]; omega) dX9_layImage_99 ?_
            refine z_withR (fun hR => ?_)
            refine ziinc_7_4 dX9_layImage_100 ?_
            refine z_goto (tgt := 24) dX9_layImage_103 (by decide) ?_
            refine ih (t + 1) _ _ _ (by omega) (by omega) (f1.mu (by decide)) (fun t' ht' => ?_)
            by_cases e : t' = t
            · rw [e, zmu_same]
            · rw [zmu_ne _ _ _ _ e]; exact h1 t' (by omega)
  refine zaload_7_0 dX9_layImage_0 ?_
  refine zg_Model_99 rfl dX9_layImage_1 ?_
  refine z_iconst dX9_layImage_4 ?_
  refine ziload_7_1 dX9_layImage_5 ?_
  refine z_iast (0) (by decide) rfl (by decide) (by decide) rfl (by omega) (by first | omega | exact hR.1 _ _ (by decide) | exact zrng_toInt _) dX9_layImage_6 ?_
  refine z_withR (fun hR => ?_)
  refine zaload_7_0 dX9_layImage_7 ?_
  refine zg_Model_99 rfl dX9_layImage_8 ?_
  refine z_iconst dX9_layImage_11 ?_
  refine ziload_7_2 dX9_layImage_12 ?_
  refine z_iast (1) (by decide) rfl (by decide) (by decide) rfl (by omega) (by first | omega | exact hR.1 _ _ (by decide) | exact zrng_toInt _) dX9_layImage_13 ?_
  refine z_withR (fun hR => ?_)
  refine zaload_7_0 dX9_layImage_14 ?_
  refine zg_Model_99 rfl dX9_layImage_15 ?_
  refine z_iconst dX9_layImage_18 ?_
  refine ziload_7_3 dX9_layImage_19 ?_
  refine z_iast (2) (by decide) rfl (by decide) (by decide) rfl (by omega) (by first | omega | exact hR.1 _ _ (by decide) | exact zrng_toInt _) dX9_layImage_20 ?_
  refine z_withR (fun hR => ?_)
  refine z_iconst dX9_layImage_21 ?_
  refine zistore_7_4 dX9_layImage_22 ?_
  refine loop (T - 3) 3 _ _ _ (by omega) (by omega) (((zfr.rf.mu (by decide)).mu (by decide)).mu (by decide)) (fun t' ht' => ?_)
  rcases (show t' = 0 ∨ t' = 1 ∨ t' = 2 by omega) with rfl | rfl | rfl
  · rw [zmu_ne _ _ _ _ (by decide), zmu_ne _ _ _ _ (by decide), zmu_same, hF0]
  · rw [zmu_ne _ _ _ _ (by decide), zmu_same, hF1]
  · rw [zmu_same, hF2]
/-- the pairs of a told relation, both ways -/
def nwR (M : zMem) (T : Nat) (D : Nat → Nat → Prop) : Prop := ∀ t u, t < T → u < T → (M 64 (20 * t + u) = 1 ∧ (D t u ∨ D u t)) ∨ (M 64 (20 * t + u) = 0 ∧ ¬ (D t u ∨ D u t))
theorem nwR.to {M : zMem} {T : Nat} {D D' : Nat → Nat → Prop} (h : nwR M T D) (he : ∀ t u, t < T → u < T → (D t u ↔ D' t u)) : nwR M T D' := by
  intro t u ht hu
  rw [← he t u ht hu, ← he u t hu ht]
  exact h t u ht hu
theorem nwR.add {M : zMem} {T : Nat} {D : Nat → Nat → Prop} (h : nwR M T D) (hT : T ≤ 20) {a b : Nat} (ha : a < T) (hb : b < T) : nwR (zmu (zmu M 64 (20 * a + b) 1) 64 (20 * b + a) 1) T (fun t u => D t u ∨ (t = a ∧ u = b)) := by
  intro t u ht hu
  by_cases e1 : t = b ∧ u = a
  · rw [e1.1, e1.2, zmu_same]
    exact Or.inl ⟨rfl, Or.inr (Or.inr ⟨rfl, rfl⟩)⟩
  · rw [zmu_ne _ _ _ _ (by omega)]
    by_cases e2 : t = a ∧ u = b
    · rw [e2.1, e2.2, zmu_same]
      exact Or.inl ⟨rfl, Or.inl (Or.inr ⟨rfl, rfl⟩)⟩
    · rw [zmu_ne _ _ _ _ (by omega)]
      have hx : ((D t u ∨ (t = a ∧ u = b)) ∨ (D u t ∨ (u = a ∧ t = b))) ↔ (D t u ∨ D u t) := by
        constructor
        · rintro ((z | z) | (z | z))
          · exact Or.inl z
          · exact absurd z e2
          · exact Or.inr z
          · exact absurd ⟨z.2, z.1⟩ e1
        · rintro (z | z)
          · exact Or.inl (Or.inl z)
          · exact Or.inr (Or.inl z)
      rw [hx]
      exact h t u ht hu
theorem sp_Model_layLaws (M : zMem) (B : Nat → Nat → Nat) (hT : tmR M (B 1) (B 2) (B 0 0)) (hu : uqT (B 1) (B 2) (B 0 0)) (hJ : ∀ a b, a < 20 → b < 20 → M 37 (20 * a + b) = jdI (B 1) (B 2) (B 0 0) a b) (hP : lwR M (B 0 0) (B 3 0) (B 4) (B 5)) (h0 : ∀ k, k < 400 → M 64 k = 0) : zSp zd_Model_layLaws 1 [zr 9] M (fun _ M' => zfr [63, 64] M M' ∧ nwR M' (B 0 0) (fun t u => lwB (B 1) (B 2) (B 4) (B 5) (B 0 0) (B 3 0) t u = true)) := by
  refine zSp_in 7 [some (zr 9), none, none, none, none, none, none, none] rfl rfl (by decide +kernel) rfl ?_
  refine z_withR (fun hR => ?_)
  obtain ⟨t1, t2, t3, t4, t5⟩ := id hT
  obtain ⟨p1, p2, p3⟩ := id hP
  obtain ⟨post, hpost⟩ : ∃ post : Int → zMem → Prop, post = (fun (_ : Int) M' => zfr [63, 64] M M' ∧ nwR M' (B 0 0) (fun t u => lwB (B 1) (B 2) (B 4) (B 5) (B 0 0) (B 3 0) t u = true)) := ⟨_, rfl⟩
  rw [← hpost]
  obtain ⟨J, hJd⟩ : ∃ J : Nat → Nat → Nat → Nat → Nat → Prop, J = (fun k l t u z => ∃ l', l' < l ∧ im (B 1) (B 2) (B 0 0) (k / 400) (k / 20 % 20) (k % 20) (B 4 l') = some t ∧ im (B 1) (B 2) (B 0 0) (k / 400) (k / 20 % 20) (k % 20) (B 5 l') = some u ∧ z = z) := ⟨_, rfl⟩
  obtain ⟨G, hG⟩ : ∃ G : Nat → Prop, G = (fun k => k / 400 < B 0 0 ∧ k / 20 % 20 < B 0 0 ∧ k % 20 < B 0 0) := ⟨_, rfl⟩
  have loop : ∀ (c k : Nat) (M1 : zMem) (l2 l3 l4 l5 l6 l7 : Option zAV), k + c = 8000 → zfr [63, 64] M M1 → nwR M1 (B 0 0) (fun t u => ∃ k', k' < k ∧ G k' ∧ J k' (B 3 0) t u 0) → zV zd_Model_layLaws 1 2 [some (zr 9), some (zi k), l2, l3, l4, l5, l6, l7] [] M1 post := by
    intro c
    induction c with
    | zero =>
      intro k M1 l2 l3 l4 l5 l6 l7 hk f1 h1
      refine z_withR (fun hR => ?_)
      refine ziload_8_1 dX9_layLaws_2 ?_
      refine z_sipush dX9_layLaws_3 (by decide) ?_
      refine z_icmp_ge (tgt := 163) (by first | omega | exact hR.1 _ _ (by decide) | exact zrng_toInt _) (by first | omega | exact hR.1 _ _ (by decide) | exact zrng_toInt _) dX9_layLaws_6 (by decide) (fun h6 => ?_) (fun h6 => ?_)
      · refine z_vret rfl ?_ dX9_layLaws_163
        rw [hpost]
        refine ⟨f1, h1.to (fun t u ht hu => ?_)⟩
        rw [lwB_iff, hG, hJd]
        constructor
        · rintro ⟨k', z1, ⟨z2, z3, z4⟩, l', z5, z6, z7, _⟩
          exact ⟨l', z5, k' / 400, k' / 20 % 20, k' % 20, z2, z3, z4, z6, z7⟩
        · rintro ⟨l', z5, x, y, z, z2, z3, z4, z6, z7⟩
          have e1 : (400 * x + 20 * y + z) / 400 = x := by omega
          have e2 : (400 * x + 20 * y + z) / 20 % 20 = y := by omega
          have e3 : (400 * x + 20 * y + z) % 20 = z := by omega
          refine ⟨400 * x + 20 * y + z, by omega, ?_, l', z5, ?_, ?_, rfl⟩
          · dsimp only; rw [e1, e2, e3]; exact ⟨z2, z3, z4⟩
          · rw [e1, e2, e3]; exact z6
          · rw [e1, e2, e3]; exact z7
      · omega
    | succ c ih =>
      intro k M1 l2 l3 l4 l5 l6 l7 hk f1 h1
      have e1 : M1 9 0 = (B 0 0 : Nat) := by rw [f1 9 (by decide)]; exact t1
      have e4 : M1 9 4 = (B 3 0 : Nat) := by rw [f1 9 (by decide)]; exact p1
      obtain ⟨x, hx⟩ : ∃ x, x = k / 400 := ⟨_, rfl⟩
      obtain ⟨y, hy⟩ : ∃ y, y = k / 20 % 20 := ⟨_, rfl⟩
      obtain ⟨z, hz⟩ : ∃ z, z = k % 20 := ⟨_, rfl⟩
      have skip : ∀ (M2 : zMem) (l2 l3 l4 l5 l6 l7 : Option zAV), zfr [63, 64] M M2 → nwR M2 (B 0 0) (fun t u => ∃ k', k' < k + 1 ∧ G k' ∧ J k' (B 3 0) t u 0) → zV zd_Model_layLaws 1 157 [some (zr 9), some (zi k), l2, l3, l4, l5, l6, l7] [] M2 post := by
        intro M2 l2 l3 l4 l5 l6 l7 f2 h2
        refine z_withR (fun hR => ?_)
        refine ziinc_8_1 dX9_layLaws_157 ?_
        refine z_goto (tgt := 2) dX9_layLaws_160 (by decide) ?_
        exact ih (k + 1) M2 _ _ _ _ _ _ (by omega) f2 h2
      have no : ¬ (G k ∧ 0 < B 3 0) → ∀ (l2 l3 l4 l5 l6 l7 : Option zAV), zV zd_Model_layLaws 1 157 [some (zr 9), some (zi k), l2, l3, l4, l5, l6, l7] [] M1 post := by
        intro hn l2 l3 l4 l5 l6 l7
        refine skip M1 _ _ _ _ _ _ f1 (h1.to (fun t u ht hu => ?_))
        constructor
        · rintro ⟨k', z1, z2, z3⟩; exact ⟨k', by omega, z2, z3⟩
        · rintro ⟨k', z1, z2, z3⟩
          by_cases e : k' = k
          · subst e
            rw [hJd] at z3
            obtain ⟨l', q1, _⟩ := z3
            exact absurd ⟨z2, by omega⟩ hn
          · exact ⟨k', by omega, z2, z3⟩
      have lloop : G k → ∀ (M0 : zMem), zfr [63, 64] M M0 → (∀ t, t < B 0 0 → M0 63 t = imI (B 1) (B 2) (B 0 0) x y z t) → ∀ (c l : Nat) (M2 : zMem) (l6 l7 : Option zAV), l + c = B 3 0 → zfr [64] M0 M2 → nwR M2 (B 0 0) (fun t u => (∃ k', k' < k ∧ G k' ∧ J k' (B 3 0) t u 0) ∨ J k l t u 0) → zV zd_Model_layLaws 1 72 [some (zr 9), some (zi k), some (zi x), some (zi y), some (zi z), some (zi l), l6, l7] [] M2 post := by
        intro hGk M0 f0 hI c
        have hGk' : x < B 0 0 ∧ y < B 0 0 ∧ z < B 0 0 := by rw [hG] at hGk; rw [hx, hy, hz]; exact hGk
        induction c with
        | zero =>
          intro l M2 l6 l7 hl f2 h2
          have f02 : zfr [63, 64] M M2 := f0.tr f2 (by decide) (by decide)
          have e4 : M2 9 4 = (B 3 0 : Nat) := by rw [f02 9 (by decide)]; exact p1
          refine z_withR (fun hR => ?_)
          refine ziload_8_5 dX9_layLaws_72 ?_
          refine zaload_8_0 dX9_layLaws_74 ?_
          refine zg_Model_113 rfl dX9_layLaws_75 ?_
          refine z_top e4 ?_
          refine z_icmp_ge (tgt := 157) (by first | omega | exact hR.1 _ _ (by decide) | exact zrng_toInt _) (by first | omega | exact hR.1 _ _ (by decide) | exact zrng_toInt _) dX9_layLaws_78 (by decide) (fun h78 => ?_) (fun h78 => ?_)
          · refine skip M2 _ _ _ _ _ _ f02 (h2.to (fun t u ht hu => ?_))
            rw [show l = B 3 0 by omega]
            constructor
            · rintro (⟨k', z1, z2, z3⟩ | z3)
              · exact ⟨k', by omega, z2, z3⟩
              · exact ⟨k, by omega, hGk, z3⟩
            · rintro ⟨k', z1, z2, z3⟩
              by_cases e : k' = k
              · rw [e] at z3; exact Or.inr z3
              · exact Or.inl ⟨k', by omega, z2, z3⟩
          · omega
        | succ c ihl =>
          intro l M2 l6 l7 hl f2 h2
          have f02 : zfr [63, 64] M M2 := f0.tr f2 (by decide) (by decide)
          have e4 : M2 9 4 = (B 3 0 : Nat) := by rw [f02 9 (by decide)]; exact p1
          have eA : M2 38 l = (B 4 l : Nat) := by rw [f02 38 (by decide)]; exact (p3 l (by omega)).1.1
          have eB : M2 39 l = (B 5 l : Nat) := by rw [f02 39 (by decide)]; exact (p3 l (by omega)).1.2
          obtain ⟨lA, lB⟩ := (p3 l (by omega)).2
          have iA : M2 63 (B 4 l) = imI (B 1) (B 2) (B 0 0) x y z (B 4 l) := by rw [f2 63 (by decide)]; exact hI _ lA
          have iB : M2 63 (B 5 l) = imI (B 1) (B 2) (B 0 0) x y z (B 5 l) := by rw [f2 63 (by decide)]; exact hI _ lB
          have rA := imI_rng (t := B 4 l) t4 hu hGk'.1 hGk'.2.1 hGk'.2.2 lA
          have rB := imI_rng (t := B 5 l) t4 hu hGk'.1 hGk'.2.1 hGk'.2.2 lB
          have next : ∀ (M3 : zMem) (l6 l7 : Option zAV), zfr [64] M0 M3 → nwR M3 (B 0 0) (fun t u => (∃ k', k' < k ∧ G k' ∧ J k' (B 3 0) t u 0) ∨ J k (l + 1) t u 0) → zV zd_Model_layLaws 1 151 [some (zr 9), some (zi k), some (zi x), some (zi y), some (zi z), some (zi l), l6, l7] [] M3 post := by
            intro M3 l6 l7 f3 h3
            refine z_withR (fun hR => ?_)
            refine ziinc_8_5 dX9_layLaws_151 ?_
            refine z_goto (tgt := 72) dX9_layLaws_154 (by decide) ?_
            exact ihl (l + 1) M3 _ _ (by omega) f3 h3
          have hJs : ∀ t u, J k (l + 1) t u 0 ↔ (J k l t u 0 ∨ (imI (B 1) (B 2) (B 0 0) x y z (B 4 l) = (t : Int) ∧ imI (B 1) (B 2) (B 0 0) x y z (B 5 l) = (u : Int))) := by
            intro t u
            rw [imI_some, imI_some, hJd, hx, hy, hz]
            constructor
            · rintro ⟨l', z1, z2, z3, _⟩
              by_cases e : l' = l
              · rw [e] at z2 z3; exact Or.inr ⟨z2, z3⟩
              · exact Or.inl ⟨l', by omega, z2, z3, rfl⟩
            · rintro (⟨l', z1, z2, z3, _⟩ | ⟨z2, z3⟩)
              · exact ⟨l', by omega, z2, z3, rfl⟩
              · exact ⟨l, by omega, z2, z3, rfl⟩
          obtain ⟨a, ha⟩ : ∃ a, a = imI (B 1) (B 2) (B 0 0) x y z (B 4 l) := ⟨_, rfl⟩
          obtain ⟨b, hb⟩ : ∃ b, b = imI (B 1) (B 2) (B 0 0) x y z (B 5 l) := ⟨_, rfl⟩
          rw [← ha] at iA rA hJs
          rw [← hb] at iB rB hJs
          have nothing : (a = -9 ∨ b = -9) → nwR M2 (B 0 0) (fun t u => (∃ k', k' < k ∧ G k' ∧ J k' (B 3 0) t u 0) ∨ J k (l + 1) t u 0) := by
            intro hab
            refine h2.to (fun t u ht hu => ?_)
            rw [hJs]
            constructor
            · rintro (q | q)
              · exact Or.inl q
              · exact Or.inr (Or.inl q)
            · rintro (q | q | q)
              · exact Or.inl q
              · exact Or.inr q
              · omega
          refine z_withR (fun hR => ?_)
          refine ziload_8_5 dX9_layLaws_72 ?_
          refine zaload_8_0 dX9_layLaws_74 ?_
          refine zg_Model_113 rfl dX9_layLaws_75 ?_
          refine z_top e4 ?_
          refine z_icmp_ge (tgt := 157) (by first | omega | exact hR.1 _ _ (by decide) | exact zrng_toInt _) (by first | omega | exact hR.1 _ _ (by decide) | exact zrng_toInt _) dX9_layLaws_78 (by decide) (fun h78 => ?_) (fun h78 => ?_)
          · omega
          · refine zaload_8_0 dX9_layLaws_81 ?_
            refine zg_Model_99 rfl dX9_layLaws_82 ?_
            refine zaload_8_0 dX9_layLaws_85 ?_
            refine zg_Model_23 rfl dX9_layLaws_86 ?_
            refine ziload_8_5 dX9_layLaws_89 ?_
            refine z_iald _ rfl (by decide) (by decide) rfl (by omega) dX9_layLaws_91 ?_
            refine z_top eA ?_
            refine z_iald _ rfl (by decide) (by decide) rfl (by omega) dX9_layLaws_92 ?_
            refine z_top iA ?_
            refine zistore_8_6 dX9_layLaws_93 ?_
            refine zaload_8_0 dX9_layLaws_95 ?_
            refine zg_Model_99 rfl dX9_layLaws_96 ?_
            refine zaload_8_0 dX9_layLaws_99 ?_
            refine zg_Model_26 rfl dX9_layLaws_100 ?_
            refine ziload_8_5 dX9_layLaws_103 ?_
            refine z_iald _ rfl (by decide) (by decide) rfl (by omega) dX9_layLaws_105 ?_
            refine z_top eB ?_
            refine z_iald _ rfl (by decide) (by decide) rfl (by omega) dX9_layLaws_106 ?_
            refine z_top iB ?_
            refine zistore_8_7 dX9_layLaws_107 ?_
            refine ziload_8_6 dX9_layLaws_109 ?_
            refine z_bipush dX9_layLaws_111 (by decide) ?_
            refine z_icmp_eq (tgt := 151) (by first | omega | exact hR.1 _ _ (by decide) | exact zrng_toInt _) (by first | omega | exact hR.1 _ _ (by decide) | exact zrng_toInt _) dX9_layLaws_113 (by decide) (fun h113 => ?_) (fun h113 => ?_)
            · first
                | exact next M2 _ _ f2 (nothing (Or.inl h113))
                | exact next M2 _ _ f2 (nothing (Or.inr h120))
                | (refine next _ _ _ ((f2.mu (by decide)).mu (by decide)) ((h2.add t3 (a := a') (b := b') (by omega) (by omega)).to (fun t u ht hu => ?_))
                   rw [hJs]
                   constructor
                   · rintro ((q | q) | q)
                     · exact Or.inl q
                     · exact Or.inr (Or.inl q)
                     · exact Or.inr (Or.inr (by omega))
                   · rintro (q | q | q)
                     · exact Or.inl (Or.inl q)
                     · exact Or.inl (Or.inr q)
                     · exact Or.inr (by omega))
            · refine ziload_8_7 dX9_layLaws_116 ?_
              refine z_bipush dX9_layLaws_118 (by decide) ?_
              refine z_icmp_eq (tgt := 151) (by first | omega | exact hR.1 _ _ (by decide) | exact zrng_toInt _) (by first | omega | exact hR.1 _ _ (by decide) | exact zrng_toInt _) dX9_layLaws_120 (by decide) (fun h120 => ?_) (fun h120 => ?_)
              · first
                  | exact next M2 _ _ f2 (nothing (Or.inl h113))
                  | exact next M2 _ _ f2 (nothing (Or.inr h120))
                  | (refine next _ _ _ ((f2.mu (by decide)).mu (by decide)) ((h2.add t3 (a := a') (b := b') (by omega) (by omega)).to (fun t u ht hu => ?_))
                     rw [hJs]
                     constructor
                     · rintro ((q | q) | q)
                       · exact Or.inl q
                       · exact Or.inr (Or.inl q)
                       · exact Or.inr (Or.inr (by omega))
                     · rintro (q | q | q)
                       · exact Or.inl (Or.inl q)
                       · exact Or.inl (Or.inr q)
                       · exact Or.inr (by omega))
              · obtain ⟨a', ea⟩ : ∃ a' : Nat, a = a' := ⟨a.toNat, by omega⟩
                obtain ⟨b', eb⟩ : ∃ b' : Nat, b = b' := ⟨b.toNat, by omega⟩
                refine zaload_8_0 dX9_layLaws_123 ?_
                refine zg_Model_102 rfl dX9_layLaws_124 ?_
                refine z_bipush dX9_layLaws_127 (by decide) ?_
                refine ziload_8_6 dX9_layLaws_129 ?_
                refine z_imul dX9_layLaws_131 ?_
                refine ziload_8_7 dX9_layLaws_132 ?_
                refine z_iadd dX9_layLaws_134 ?_
                refine z_iconst dX9_layLaws_135 ?_
                refine z_zast (20 * a' + b') (by decide) rfl (by decide) (by decide) (by omega) (by omega) (by first | omega | exact hR.1 _ _ (by decide) | exact zrng_toInt _) dX9_layLaws_136 ?_
                refine z_withR (fun hR => ?_)
                refine zaload_8_0 dX9_layLaws_137 ?_
                refine zg_Model_102 rfl dX9_layLaws_138 ?_
                refine z_bipush dX9_layLaws_141 (by decide) ?_
                refine ziload_8_7 dX9_layLaws_143 ?_
                refine z_imul dX9_layLaws_145 ?_
                refine ziload_8_6 dX9_layLaws_146 ?_
                refine z_iadd dX9_layLaws_148 ?_
                refine z_iconst dX9_layLaws_149 ?_
                refine z_zast (20 * b' + a') (by decide) rfl (by decide) (by decide) (by omega) (by omega) (by first | omega | exact hR.1 _ _ (by decide) | exact zrng_toInt _) dX9_layLaws_150 ?_
                refine z_withR (fun hR => ?_)
                first
                  | exact next M2 _ _ f2 (nothing (Or.inl h113))
                  | exact next M2 _ _ f2 (nothing (Or.inr h120))
                  | (refine next _ _ _ ((f2.mu (by decide)).mu (by decide)) ((h2.add t3 (a := a') (b := b') (by omega) (by omega)).to (fun t u ht hu => ?_))
                     rw [hJs]
                     constructor
                     · rintro ((q | q) | q)
                       · exact Or.inl q
                       · exact Or.inr (Or.inl q)
                       · exact Or.inr (Or.inr (by omega))
                     · rintro (q | q | q)
                       · exact Or.inl (Or.inl q)
                       · exact Or.inl (Or.inr q)
                       · exact Or.inr (by omega))
      refine z_withR (fun hR => ?_)
      refine ziload_8_1 dX9_layLaws_2 ?_
      refine z_sipush dX9_layLaws_3 (by decide) ?_
      refine z_icmp_ge (tgt := 163) (by first | omega | exact hR.1 _ _ (by decide) | exact zrng_toInt _) (by first | omega | exact hR.1 _ _ (by decide) | exact zrng_toInt _) dX9_layLaws_6 (by decide) (fun h6 => ?_) (fun h6 => ?_)
      · omega
      · refine ziload_8_1 dX9_layLaws_9 ?_
        refine z_sipush dX9_layLaws_10 (by decide) ?_
        refine z_idiv (by omega) (by omega) dX9_layLaws_13 ?_
        refine z_top (y := (x : Int)) (by omega) ?_
        refine zistore_8_2 dX9_layLaws_14 ?_
        refine ziload_8_1 dX9_layLaws_15 ?_
        refine z_bipush dX9_layLaws_16 (by decide) ?_
        refine z_idiv (by omega) (by omega) dX9_layLaws_18 ?_
        refine z_bipush dX9_layLaws_19 (by decide) ?_
        refine z_irem (by omega) (by omega) dX9_layLaws_21 ?_
        refine z_top (y := (y : Int)) (by omega) ?_
        refine zistore_8_3 dX9_layLaws_22 ?_
        refine ziload_8_1 dX9_layLaws_23 ?_
        refine z_bipush dX9_layLaws_24 (by decide) ?_
        refine z_irem (by omega) (by omega) dX9_layLaws_26 ?_
        refine z_top (y := (z : Int)) (by omega) ?_
        refine zistore_8_4 dX9_layLaws_27 ?_
        refine ziload_8_2 dX9_layLaws_29 ?_
        refine zaload_8_0 dX9_layLaws_30 ?_
        refine zg_Model_7 rfl dX9_layLaws_31 ?_
        refine z_top e1 ?_
        refine z_icmp_ge (tgt := 157) (by first | omega | exact hR.1 _ _ (by decide) | exact zrng_toInt _) (by first | omega | exact hR.1 _ _ (by decide) | exact zrng_toInt _) dX9_layLaws_34 (by decide) (fun h34 => ?_) (fun h34 => ?_)
        · have hn : ¬ (G k ∧ 0 < B 3 0) := fun q => by rw [hG] at q; omega
          exact no hn _ _ _ _ _ _
        · refine ziload_8_3 dX9_layLaws_37 ?_
          refine zaload_8_0 dX9_layLaws_38 ?_
          refine zg_Model_7 rfl dX9_layLaws_39 ?_
          refine z_top e1 ?_
          refine z_icmp_ge (tgt := 157) (by first | omega | exact hR.1 _ _ (by decide) | exact zrng_toInt _) (by first | omega | exact hR.1 _ _ (by decide) | exact zrng_toInt _) dX9_layLaws_42 (by decide) (fun h42 => ?_) (fun h42 => ?_)
          · have hn : ¬ (G k ∧ 0 < B 3 0) := fun q => by rw [hG] at q; omega
            exact no hn _ _ _ _ _ _
          · refine ziload_8_4 dX9_layLaws_45 ?_
            refine zaload_8_0 dX9_layLaws_47 ?_
            refine zg_Model_7 rfl dX9_layLaws_48 ?_
            refine z_top e1 ?_
            refine z_icmp_ge (tgt := 157) (by first | omega | exact hR.1 _ _ (by decide) | exact zrng_toInt _) (by first | omega | exact hR.1 _ _ (by decide) | exact zrng_toInt _) dX9_layLaws_51 (by decide) (fun h51 => ?_) (fun h51 => ?_)
            · have hn : ¬ (G k ∧ 0 < B 3 0) := fun q => by rw [hG] at q; omega
              exact no hn _ _ _ _ _ _
            · refine zaload_8_0 dX9_layLaws_54 ?_
              refine zg_Model_113 rfl dX9_layLaws_55 ?_
              refine z_top e4 ?_
              refine z_if_le (tgt := 157) (by first | omega | exact hR.1 _ _ (by decide) | exact zrng_toInt _) dX9_layLaws_58 (by decide) (fun h58 => ?_) (fun h58 => ?_)
              · have hn : ¬ (G k ∧ 0 < B 3 0) := fun q => by omega
                exact no hn _ _ _ _ _ _
              · have hGk : G k := by rw [hG]; exact ⟨by omega, by omega, by omega⟩
                refine zaload_8_0 dX9_layLaws_61 ?_
                refine ziload_8_2 dX9_layLaws_62 ?_
                refine ziload_8_3 dX9_layLaws_63 ?_
                refine ziload_8_4 dX9_layLaws_64 ?_
                refine zc_Model_252 rfl dX9_layLaws_66 (by decide) (Nat.le_of_ble_eq_true rfl) (sp_Model_layImage M1 (B 1) (B 2) (B 0 0) x y z (hT.fr f1 (by rw [f1 9 (by decide)]) (by decide) (by decide)) hu (by rw [f1 37 (by decide)]; exact hJ) (by omega) (by omega) (by omega)) (fun r66 M66 hq66 => ?_)
                refine z_withR (fun hR => ?_)
                obtain ⟨f66, i66⟩ := hq66
                have h1' : nwR M1 (B 0 0) (fun t u => (∃ k', k' < k ∧ G k' ∧ J k' (B 3 0) t u 0) ∨ J k 0 t u 0) := by
                  refine h1.to (fun t u _ _ => ?_)
                  constructor
                  · exact Or.inl
                  · rintro (q | q)
                    · exact q
                    · rw [hJd] at q
                      obtain ⟨l', q1, _⟩ := q
                      exact absurd q1 (Nat.not_lt_zero _)
                refine z_iconst dX9_layLaws_69 ?_
                refine zistore_8_5 dX9_layLaws_70 ?_
                exact lloop hGk M66 (f1.tr f66 (by decide) (by decide)) i66 (B 3 0) 0 M66 _ _ (by omega) zfr.rf (fun t u ht hu => by rw [f66 64 (by decide)]; exact h1' t u ht hu)
  refine z_iconst dX9_layLaws_0 ?_
  refine zistore_8_1 dX9_layLaws_1 ?_
  refine loop 8000 0 M _ _ _ _ _ _ (by omega) zfr.rf (fun t u ht hu => Or.inr ⟨h0 _ (by omega), ?_⟩)
  rintro (⟨k', q, _⟩ | ⟨k', q, _⟩) <;> exact absurd q (Nat.not_lt_zero _)
