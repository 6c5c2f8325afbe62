theorem ptB_low {L R g : Nat → Nat} {x y : Nat} (h : x < 3 ∨ y < 3) : ptB L R g x y = false := by
  rw [Bool.eq_false_iff]
  intro hz
  have := (ptB_iff.mp hz).1
  omega
theorem sp_Model_layParts (M : zMem) (L R g : Nat → Nat) (N : Nat → Nat → Bool) (T : Nat) (hT : tmR M L R T) (hm : mr T g) (hg : ∀ t, t < T → M 62 t = g t) (hN : ∀ t u, t < T → u < T → M 64 (20 * t + u) = b01 (N t u)) : zSp zd_Model_layParts 0 [zr 9] M (fun _ M' => zfr [64] M M' ∧ ∀ t u, t < T → u < T → M' 64 (20 * t + u) = b01 (N t u || ptB L R g t u)) := by
  refine zSp_in 3 [some (zr 9), none, none, none] rfl rfl (by decide +kernel) rfl ?_
  refine z_withR (fun hR => ?_)
  obtain ⟨t1, t2, t3, t4, t5⟩ := id hT
  obtain ⟨post, hpost⟩ : ∃ post : Int → zMem → Prop, post = (fun (_ : Int) M' => zfr [64] M M' ∧ ∀ t u, t < T → u < T → M' 64 (20 * t + u) = b01 (N t u || ptB L R g t u)) := ⟨_, rfl⟩
  rw [← hpost]
  have aloop : ∀ (c a : Nat) (M1 : zMem) (l2 l3 : Option zAV), a + c = T → 3 ≤ a → zfr [64] M M1 → (∀ t u, t < T → u < T → M1 64 (20 * t + u) = b01 (if t < a then N t u || ptB L R g t u else N t u)) → zV zd_Model_layParts 0 2 [some (zr 9), some (zi a), l2, l3] [] M1 post := by
    intro c
    induction c with
    | zero =>
      intro a M1 l2 l3 ha h3 f1 h1
      have e1 : M1 9 0 = T := by rw [f1 9 (by decide)]; exact t1
      refine z_withR (fun hR => ?_)
      refine ziload_4_1 dX9_layParts_2 ?_
      refine zaload_4_0 dX9_layParts_3 ?_
      refine zg_Model_7 rfl dX9_layParts_4 ?_
      refine z_top e1 ?_
      refine z_icmp_ge (tgt := 122) (by first | omega | exact hR.1 _ _ (by decide) | exact zrng_toInt _) (by first | omega | exact hR.1 _ _ (by decide) | exact zrng_toInt _) dX9_layParts_7 (by decide) (fun h7 => ?_) (fun h7 => ?_)
      · refine z_vret rfl ?_ dX9_layParts_122
        rw [hpost]
        refine ⟨f1, fun t u ht hu => ?_⟩
        rw [h1 t u ht hu, if_pos (by omega)]
      · omega
    | succ c ih =>
      intro a M1 l2 l3 ha h3 f1 h1
      have haT : a < T := by omega
      obtain ⟨w1, w2⟩ := t4 a h3 haT
      have bloop : ∀ (c b : Nat) (M2 : zMem) (l3 : Option zAV), b + c = T → 3 ≤ b → zfr [64] M M2 → (∀ t u, t < T → u < T → M2 64 (20 * t + u) = b01 (if t < a ∨ (t = a ∧ u < b) then N t u || ptB L R g t u else N t u)) → zV zd_Model_layParts 0 12 [some (zr 9), some (zi a), some (zi b), l3] [] M2 post := by
        intro c
        induction c with
        | zero =>
          intro b M2 l3 hb h3b f2 h2
          have e1 : M2 9 0 = T := by rw [f2 9 (by decide)]; exact t1
          refine z_withR (fun hR => ?_)
          refine ziload_4_2 dX9_layParts_12 ?_
          refine zaload_4_0 dX9_layParts_13 ?_
          refine zg_Model_7 rfl dX9_layParts_14 ?_
          refine z_top e1 ?_
          refine z_icmp_ge (tgt := 116) (by first | omega | exact hR.1 _ _ (by decide) | exact zrng_toInt _) (by first | omega | exact hR.1 _ _ (by decide) | exact zrng_toInt _) dX9_layParts_17 (by decide) (fun h17 => ?_) (fun h17 => ?_)
          · refine ziinc_4_1 dX9_layParts_116 ?_
            refine z_goto (tgt := 2) dX9_layParts_119 (by decide) ?_
            refine ih (a + 1) M2 _ _ (by omega) (by omega) f2 (fun t u ht hu => ?_)
            rw [h2 t u ht hu]
            by_cases e : t < a + 1
            · rw [if_pos e, if_pos (by omega)]
            · rw [if_neg e, if_neg (by omega)]
          · omega
        | succ c ihb =>
          intro b M2 l3 hb h3b f2 h2
          have hbT : b < T := by omega
          obtain ⟨v1, v2⟩ := t4 b h3b hbT
          have e1 : M2 9 0 = T := by rw [f2 9 (by decide)]; exact t1
          have ea1 : M2 35 a = L a := by rw [f2 35 (by decide)]; exact (t5 a h3 haT).1
          have ea2 : M2 36 a = R a := by rw [f2 36 (by decide)]; exact (t5 a h3 haT).2
          have eb1 : M2 35 b = L b := by rw [f2 35 (by decide)]; exact (t5 b h3b hbT).1
          have eb2 : M2 36 b = R b := by rw [f2 36 (by decide)]; exact (t5 b h3b hbT).2
          have hG : ∀ t, t < T → M2 62 t = g t := fun t ht => by rw [f2 62 (by decide)]; exact hg t ht
          have m1 := (hm (L a) (by omega)).1
          have m2 := (hm (R a) (by omega)).1
          have m3 := (hm (L b) (by omega)).1
          have m4 := (hm (R b) (by omega)).1
          have hn2 := h2 a b haT hbT
          rw [if_neg (by omega)] at hn2
          have k75 : ∀ (x : Int) (l3 : Option zAV), x = b01 (ptB L R g a b) → zV zd_Model_layParts 0 75 [some (zr 9), some (zi a), some (zi b), l3] [zi x] M2 post := by
            intro x l3 hx
            subst hx
            refine z_withR (fun hR => ?_)
            refine zistore_4_3 dX9_layParts_75 ?_
            refine zaload_4_0 dX9_layParts_76 ?_
            refine zg_Model_102 rfl dX9_layParts_77 ?_
            refine z_bipush dX9_layParts_80 (by decide) ?_
            refine ziload_4_1 dX9_layParts_82 ?_
            refine z_imul dX9_layParts_83 ?_
            refine ziload_4_2 dX9_layParts_84 ?_
            refine z_iadd dX9_layParts_85 ?_
            refine zaload_4_0 dX9_layParts_86 ?_
            refine zg_Model_102 rfl dX9_layParts_87 ?_
            refine z_bipush dX9_layParts_90 (by decide) ?_
            refine ziload_4_1 dX9_layParts_92 ?_
            refine z_imul dX9_layParts_93 ?_
            refine ziload_4_2 dX9_layParts_94 ?_
            refine z_iadd dX9_layParts_95 ?_
            refine z_zald (20 * a + b) rfl (by decide) (by decide) (by omega) (by omega) dX9_layParts_96 ?_
            refine z_top hn2 ?_
            refine z_if_ne (tgt := 104) (b01_r _) dX9_layParts_97 (by decide) (fun h97 => ?_) (fun h97 => ?_)
            · have hv : (1 : Int) = b01 (N a b || ptB L R g a b) := by rw [b01_t h97]; rfl
              refine z_iconst dX9_layParts_104 ?_
              refine z_goto (tgt := 109) dX9_layParts_105 (by decide) ?_
              refine z_top hv ?_
              refine z_zast (20 * a + b) (by decide) rfl (by decide) (by decide) (by omega) (by omega) (b01_01 _) dX9_layParts_109 ?_
              refine z_withR (fun hR => ?_)
              refine ziinc_4_2 dX9_layParts_110 ?_
              refine z_goto (tgt := 12) dX9_layParts_113 (by decide) ?_
              refine ihb (b + 1) _ _ (by omega) (by omega) (f2.mu (by decide)) (fun t u ht hu => ?_)
              by_cases e : t = a ∧ u = b
              · rw [e.1, e.2, zmu_same, if_pos (by omega)]
              · rw [zmu_ne _ _ _ _ (by omega), h2 t u ht hu]
                by_cases e2 : t < a ∨ (t = a ∧ u < b)
                · rw [if_pos e2, if_pos (by omega)]
                · rw [if_neg e2, if_neg (by omega)]
            · have hb0 := b01_f h97
              refine ziload_4_3 dX9_layParts_100 ?_
              refine z_if_eq (tgt := 108) (b01_r _) dX9_layParts_101 (by decide) (fun h101 => ?_) (fun h101 => ?_)
              · have hv : (0 : Int) = b01 (N a b || ptB L R g a b) := by rw [hb0, b01_f h101]; rfl
                refine z_iconst dX9_layParts_108 ?_
                refine z_top hv ?_
                refine z_zast (20 * a + b) (by decide) rfl (by decide) (by decide) (by omega) (by omega) (b01_01 _) dX9_layParts_109 ?_
                refine z_withR (fun hR => ?_)
                refine ziinc_4_2 dX9_layParts_110 ?_
                refine z_goto (tgt := 12) dX9_layParts_113 (by decide) ?_
                refine ihb (b + 1) _ _ (by omega) (by omega) (f2.mu (by decide)) (fun t u ht hu => ?_)
                by_cases e : t = a ∧ u = b
                · rw [e.1, e.2, zmu_same, if_pos (by omega)]
                · rw [zmu_ne _ _ _ _ (by omega), h2 t u ht hu]
                  by_cases e2 : t < a ∨ (t = a ∧ u < b)
                  · rw [if_pos e2, if_pos (by omega)]
                  · rw [if_neg e2, if_neg (by omega)]
              · have hv : (1 : Int) = b01 (N a b || ptB L R g a b) := by rw [hb0, b01_t h101]; rfl
                refine z_iconst dX9_layParts_104 ?_
                refine z_goto (tgt := 109) dX9_layParts_105 (by decide) ?_
                refine z_top hv ?_
                refine z_zast (20 * a + b) (by decide) rfl (by decide) (by decide) (by omega) (by omega) (b01_01 _) dX9_layParts_109 ?_
                refine z_withR (fun hR => ?_)
                refine ziinc_4_2 dX9_layParts_110 ?_
                refine z_goto (tgt := 12) dX9_layParts_113 (by decide) ?_
                refine ihb (b + 1) _ _ (by omega) (by omega) (f2.mu (by decide)) (fun t u ht hu => ?_)
                by_cases e : t = a ∧ u = b
                · rw [e.1, e.2, zmu_same, if_pos (by omega)]
                · rw [zmu_ne _ _ _ _ (by omega), h2 t u ht hu]
                  by_cases e2 : t < a ∨ (t = a ∧ u < b)
                  · rw [if_pos e2, if_pos (by omega)]
                  · rw [if_neg e2, if_neg (by omega)]
          refine z_withR (fun hR => ?_)
          refine ziload_4_2 dX9_layParts_12 ?_
          refine zaload_4_0 dX9_layParts_13 ?_
          refine zg_Model_7 rfl dX9_layParts_14 ?_
          refine z_top e1 ?_
          refine z_icmp_ge (tgt := 116) (by first | omega | exact hR.1 _ _ (by decide) | exact zrng_toInt _) (by first | omega | exact hR.1 _ _ (by decide) | exact zrng_toInt _) dX9_layParts_17 (by decide) (fun h17 => ?_) (fun h17 => ?_)
          · omega
          · refine zaload_4_0 dX9_layParts_20 ?_
            refine zg_Model_96 rfl dX9_layParts_21 ?_
            refine zaload_4_0 dX9_layParts_24 ?_
            refine zg_Model_13 rfl dX9_layParts_25 ?_
            refine ziload_4_1 dX9_layParts_28 ?_
            refine z_iald _ rfl (by decide) (by decide) rfl (by omega) dX9_layParts_29 ?_
            refine z_top ea1 ?_
            refine z_iald _ rfl (by decide) (by decide) rfl (by omega) dX9_layParts_30 ?_
            refine z_top (hG (L a) (by omega)) ?_
            refine zaload_4_0 dX9_layParts_31 ?_
            refine zg_Model_96 rfl dX9_layParts_32 ?_
            refine zaload_4_0 dX9_layParts_35 ?_
            refine zg_Model_13 rfl dX9_layParts_36 ?_
            refine ziload_4_2 dX9_layParts_39 ?_
            refine z_iald _ rfl (by decide) (by decide) rfl (by omega) dX9_layParts_40 ?_
            refine z_top eb1 ?_
            refine z_iald _ rfl (by decide) (by decide) rfl (by omega) dX9_layParts_41 ?_
            refine z_top (hG (L b) (by omega)) ?_
            refine z_icmp_ne (tgt := 74) (by first | omega | exact hR.1 _ _ (by decide) | exact zrng_toInt _) (by first | omega | exact hR.1 _ _ (by decide) | exact zrng_toInt _) dX9_layParts_42 (by decide) (fun h42 => ?_) (fun h42 => ?_)
            · have hx : (0 : Int) = b01 (ptB L R g a b) := by
                rw [show ptB L R g a b = false from Bool.eq_false_iff.mpr (fun hz => by have := (ptB_iff.mp hz).2.1; omega)]
                rfl
              refine z_iconst dX9_layParts_74 ?_
              exact k75 _ _ hx
            · refine zaload_4_0 dX9_layParts_45 ?_
              refine zg_Model_96 rfl dX9_layParts_46 ?_
              refine zaload_4_0 dX9_layParts_49 ?_
              refine zg_Model_17 rfl dX9_layParts_50 ?_
              refine ziload_4_1 dX9_layParts_53 ?_
              refine z_iald _ rfl (by decide) (by decide) rfl (by omega) dX9_layParts_54 ?_
              refine z_top ea2 ?_
              refine z_iald _ rfl (by decide) (by decide) rfl (by omega) dX9_layParts_55 ?_
              refine z_top (hG (R a) (by omega)) ?_
              refine zaload_4_0 dX9_layParts_56 ?_
              refine zg_Model_96 rfl dX9_layParts_57 ?_
              refine zaload_4_0 dX9_layParts_60 ?_
              refine zg_Model_17 rfl dX9_layParts_61 ?_
              refine ziload_4_2 dX9_layParts_64 ?_
              refine z_iald _ rfl (by decide) (by decide) rfl (by omega) dX9_layParts_65 ?_
              refine z_top eb2 ?_
              refine z_iald _ rfl (by decide) (by decide) rfl (by omega) dX9_layParts_66 ?_
              refine z_top (hG (R b) (by omega)) ?_
              refine z_icmp_ne (tgt := 74) (by first | omega | exact hR.1 _ _ (by decide) | exact zrng_toInt _) (by first | omega | exact hR.1 _ _ (by decide) | exact zrng_toInt _) dX9_layParts_67 (by decide) (fun h67 => ?_) (fun h67 => ?_)
              · have hx : (0 : Int) = b01 (ptB L R g a b) := by
                  rw [show ptB L R g a b = false from Bool.eq_false_iff.mpr (fun hz => by have := (ptB_iff.mp hz).2.2; omega)]
                  rfl
                refine z_iconst dX9_layParts_74 ?_
                exact k75 _ _ hx
              · have hx : (1 : Int) = b01 (ptB L R g a b) := by
                  rw [ptB_iff.mpr ⟨⟨h3, h3b⟩, by omega, by omega⟩]
                  rfl
                refine z_iconst dX9_layParts_70 ?_
                refine z_goto (tgt := 75) dX9_layParts_71 (by decide) ?_
                exact k75 _ _ hx
      have e1 : M1 9 0 = T := by rw [f1 9 (by decide)]; exact t1
      refine z_withR (fun hR => ?_)
      refine ziload_4_1 dX9_layParts_2 ?_
      refine zaload_4_0 dX9_layParts_3 ?_
      refine zg_Model_7 rfl dX9_layParts_4 ?_
      refine z_top e1 ?_
      refine z_icmp_ge (tgt := 122) (by first | omega | exact hR.1 _ _ (by decide) | exact zrng_toInt _) (by first | omega | exact hR.1 _ _ (by decide) | exact zrng_toInt _) dX9_layParts_7 (by decide) (fun h7 => ?_) (fun h7 => ?_)
      · omega
      · refine z_iconst dX9_layParts_10 ?_
        refine zistore_4_2 dX9_layParts_11 ?_
        refine bloop (T - 3) 3 M1 _ (by omega) (by omega) f1 (fun t u ht hu => ?_)
        rw [h1 t u ht hu]
        by_cases e : t < a
        · rw [if_pos e, if_pos (by omega)]
        · rw [if_neg e]
          by_cases e2 : t = a ∧ u < 3
          · rw [if_pos (Or.inr e2), ptB_low (by omega), Bool.or_false]
          · rw [if_neg (by omega)]
  refine z_iconst dX9_layParts_0 ?_
  refine zistore_4_1 dX9_layParts_1 ?_
  refine aloop (T - 3) 3 M _ _ (by omega) (by omega) zfr.rf (fun t u ht hu => ?_)
  rw [hN t u ht hu]
  by_cases e : t < 3
  · rw [if_pos e, ptB_low (by omega), Bool.or_false]
  · rw [if_neg e]
/-- a closure on the way -/
def jo (T : Nat) (g : Nat → Nat) (N : Nat → Nat → Bool) (g' : Nat → Nat) : Prop := mr T g' ∧ (∀ x y, x < T → y < T → g x = g y → g' x = g' y) ∧ ∀ h : Nat → Nat, (∀ x y, x < T → y < T → g x = g y → h x = h y) → (∀ x y, x < T → y < T → N x y = true → h x = h y) → ∀ x y, x < T → y < T → g' x = g' y → h x = h y
theorem jo.rf {T : Nat} {g : Nat → Nat} {N : Nat → Nat → Bool} (h : mr T g) : jo T g N g := ⟨h, fun _ _ _ _ e => e, fun _ hg _ x y hx hy e => hg x y hx hy e⟩
theorem jo.jn {T : Nat} {g g' : Nat → Nat} {N : Nat → Nat → Bool} (h : jo T g N g') {t u : Nat} (ht : t < T) (hu : u < T) (hN : N t u = true) : jo T g N (jn g' t u) := by
  obtain ⟨h1, h2, h3⟩ := h
  refine ⟨mr_jn h1 ht hu, fun x y hx hy e => jn_le (h2 x y hx hy e), fun f hf hE x y hx hy e => ?_⟩
  exact jn_min (h3 f hf hE) ht hu (hE t u ht hu hN) hx hy e
theorem jo.clo {T : Nat} {g g' : Nat → Nat} {N : Nat → Nat → Bool} (h : jo T g N g') (hN : ∀ x y, x < T → y < T → N x y = true → g' x = g' y) : clo T g (fun x y => N x y = true) g' := ⟨h.1, h.2.1, hN, h.2.2⟩
theorem ngr_jn {T : Nat} {g : Nat → Nat} (h : mr T g) {t u : Nat} (ht : t < T) (hu : u < T) (hne : ¬ g t = g u) : ngr (jn g t u) T + 1 ≤ ngr g T := by
  have h1 := h t ht
  have h2 := h u hu
  unfold ngr
  refine fb_ct_strict (k := max (g t) (g u)) (fun i hi hp => ?_) (by omega) ?_ ?_
  · simp only [beq_iff_eq] at hp ⊢
    unfold jn at hp
    by_cases e : g i = max (g t) (g u)
    · rw [if_pos e] at hp
      rcases Nat.le_total (g t) (g u) with q | q
      · rw [Nat.min_eq_left q] at hp; rw [← hp]; exact h1.2
      · rw [Nat.min_eq_right q] at hp; rw [← hp]; exact h2.2
    · rw [if_neg e] at hp; exact hp
  · simp only [beq_iff_eq]
    rcases Nat.le_total (g t) (g u) with q | q
    · rw [Nat.max_eq_right q]; exact h2.2
    · rw [Nat.max_eq_left q]; exact h1.2
  · have e : g (max (g t) (g u)) = max (g t) (g u) := by
      rcases Nat.le_total (g t) (g u) with q | q
      · rw [Nat.max_eq_right q]; exact h2.2
      · rw [Nat.max_eq_left q]; exact h1.2
    unfold jn
    rw [if_pos e]
    simp
    omega
theorem sp_Model_joinAll (M : zMem) (g : Nat → Nat) (N : Nat → Nat → Bool) (T : Nat) (t1 : M 9 0 = T) (t3 : T ≤ 20) (hm : mr T g) (hg : ∀ t, t < T → M 62 t = g t) (hN : ∀ t u, t < T → u < T → M 64 (20 * t + u) = b01 (N t u)) : zSp zd_Model_joinAll 0 [zr 9] M (fun _ M' => zfr [62] M M' ∧ ∃ g', clo T g (fun x y => N x y = true) g' ∧ ∀ x, x < T → M' 62 x = g' x) := by
  refine zSp_in 7 [some (zr 9), none, none, none, none, none, none, none] rfl rfl (by decide +kernel) rfl ?_
  refine z_withR (fun hR => ?_)
  obtain ⟨post, hpost⟩ : ∃ post : Int → zMem → Prop, post = (fun (_ : Int) M' => zfr [62] M M' ∧ ∃ g', clo T g (fun x y => N x y = true) g' ∧ ∀ x, x < T → M' 62 x = g' x) := ⟨_, rfl⟩
  rw [← hpost]
  have pass : ∀ (g0 : Nat → Nat), (∀ (M2 : zMem) (g2 : Nat → Nat) (l2 l3 l4 l5 l6 l7 : Option zAV), zfr [62] M M2 → jo T g N g2 → (∀ x, x < T → M2 62 x = g2 x) → ngr g2 T + 1 ≤ ngr g0 T → zV zd_Model_joinAll 0 2 [some (zr 9), some (zi 1), l2, l3, l4, l5, l6, l7] [] M2 post) → ∀ (c k : Nat) (M2 : zMem) (g2 : Nat → Nat) (m : Bool) (l3 l4 l5 l6 l7 : Option zAV), k + c = 400 → zfr [62] M M2 → jo T g N g2 → (∀ x, x < T → M2 62 x = g2 x) → ngr g2 T + (if m then 1 else 0) ≤ ngr g0 T → (m = false → ∀ x y, x < T → y < T → 20 * x + y < k → N x y = true → g2 x = g2 y) → zV zd_Model_joinAll 0 10 [some (zr 9), some (zi (b01 m)), some (zi k), l3, l4, l5, l6, l7] [] M2 post := by
    intro g0 kont c
    induction c with
    | zero =>
      intro k M2 g2 m l3 l4 l5 l6 l7 hk f2 j2 h2 hn hcl
      cases m with
      | true =>
        have kk := fun l2 l3 l4 l5 l6 l7 => kont M2 g2 l2 l3 l4 l5 l6 l7 f2 j2 h2 hn
        refine z_withR (fun hR => ?_)
        refine ziload_8_2 dX9_joinAll_10 ?_
        refine z_sipush dX9_joinAll_11 (by decide) ?_
        refine z_icmp_ge (tgt := 195) (by first | omega | exact hR.1 _ _ (by decide) | exact zrng_toInt _) (by first | omega | exact hR.1 _ _ (by decide) | exact zrng_toInt _) dX9_joinAll_14 (by decide) (fun h14 => ?_) (fun h14 => ?_)
        · refine z_goto (tgt := 2) dX9_joinAll_195 (by decide) ?_
          exact kk _ _ _ _ _ _
        · omega
      | false =>
        have hcl' := hcl rfl
        show zV zd_Model_joinAll 0 10 [some (zr 9), some (zi 0), some (zi k), l3, l4, l5, l6, l7] [] M2 post
        refine z_withR (fun hR => ?_)
        refine ziload_8_2 dX9_joinAll_10 ?_
        refine z_sipush dX9_joinAll_11 (by decide) ?_
        refine z_icmp_ge (tgt := 195) (by first | omega | exact hR.1 _ _ (by decide) | exact zrng_toInt _) (by first | omega | exact hR.1 _ _ (by decide) | exact zrng_toInt _) dX9_joinAll_14 (by decide) (fun h14 => ?_) (fun h14 => ?_)
        · refine z_goto (tgt := 2) dX9_joinAll_195 (by decide) ?_
          refine ziload_8_1 dX9_joinAll_2 ?_
          refine z_if_eq (tgt := 198) (by first | omega | exact hR.1 _ _ (by decide) | exact zrng_toInt _) dX9_joinAll_3 (by decide) (fun h3 => ?_) (fun h3 => ?_)
          · refine z_vret rfl ?_ dX9_joinAll_198
            rw [hpost]
            exact ⟨f2, g2, j2.clo (fun x y hx hy hz => hcl' x y hx hy (by omega) hz), h2⟩
          · exact absurd rfl h3
        · omega
    | succ c ih =>
      intro k M2 g2 m l3 l4 l5 l6 l7 hk f2 j2 h2 hn hcl
      have e1 : M2 9 0 = T := by rw [f2 9 (by decide)]; exact t1
      obtain ⟨A, hA⟩ : ∃ A, A = k / 20 := ⟨_, rfl⟩
      obtain ⟨D, hD⟩ : ∃ D, D = k % 20 := ⟨_, rfl⟩
      have skip : ∀ (l3 l4 l5 l6 l7 : Option zAV), (A < T → D < T → N A D = true → g2 A = g2 D) → zV zd_Model_joinAll 0 189 [some (zr 9), some (zi (b01 m)), some (zi k), l3, l4, l5, l6, l7] [] M2 post := by
        intro l3 l4 l5 l6 l7 hok
        refine z_withR (fun hR => ?_)
        refine ziinc_8_2 dX9_joinAll_189 ?_
        refine z_goto (tgt := 10) dX9_joinAll_192 (by decide) ?_
        refine ih (k + 1) M2 g2 m _ _ _ _ _ (by omega) f2 j2 h2 hn (fun hm' x y hx hy hlt hz => ?_)
        by_cases e : 20 * x + y = k
        · have ex : x = A := by omega
          have ey : y = D := by omega
          rw [ex, ey] at hz ⊢
          exact hok (by omega) (by omega) hz
        · exact hcl hm' x y hx hy (by omega) hz
      have tloop : A < T → D < T → N A D = true → ¬ g2 A = g2 D → ∀ (c t : Nat) (M3 : zMem), t + c = T → zfr [62] M M3 → (∀ x, x < t → M3 62 x = jn g2 A D x) → (∀ x, t ≤ x → x < T → M3 62 x = g2 x) → zV zd_Model_joinAll 0 141 [some (zr 9), some (zi (b01 m)), some (zi k), some (zi A), some (zi D), some (zi ((min (g2 A) (g2 D) : Nat) : Int)), some (zi ((max (g2 A) (g2 D) : Nat) : Int)), some (zi t)] [] M3 post := by
        intro hAT hDT hNA hne c
        have mA := (j2.1 A hAT).1
        have mD := (j2.1 D hDT).1
        induction c with
        | zero =>
          intro t M3 ht f3 h3 h3'
          have e1 : M3 9 0 = T := by rw [f3 9 (by decide)]; exact t1
          have hng := ngr_jn j2.1 hAT hDT hne
          refine z_withR (fun hR => ?_)
          refine ziload_8_7 dX9_joinAll_141 ?_
          refine zaload_8_0 dX9_joinAll_143 ?_
          refine zg_Model_7 rfl dX9_joinAll_144 ?_
          refine z_top e1 ?_
          refine z_icmp_ge (tgt := 187) (by first | omega | exact hR.1 _ _ (by decide) | exact zrng_toInt _) (by first | omega | exact hR.1 _ _ (by decide) | exact zrng_toInt _) dX9_joinAll_147 (by decide) (fun h147 => ?_) (fun h147 => ?_)
          · refine z_iconst dX9_joinAll_187 ?_
            refine zistore_8_1 dX9_joinAll_188 ?_
            refine ziinc_8_2 dX9_joinAll_189 ?_
            refine z_goto (tgt := 10) dX9_joinAll_192 (by decide) ?_
            refine ih (k + 1) M3 (jn g2 A D) true _ _ _ _ _ (by omega) f3 (j2.jn hAT hDT hNA) (fun x hx => h3 x (by omega)) ?_ (fun z => by cases z)
            rw [if_pos rfl]
            split at hn <;> omega
          · omega
        | succ c iht =>
          intro t M3 ht f3 h3 h3'
          have e1 : M3 9 0 = T := by rw [f3 9 (by decide)]; exact t1
          have eT := h3' t (Nat.le_refl _) (by omega)
          have mT := (j2.1 t (by omega)).1
          have hj : jn g2 A D t = if g2 t = max (g2 A) (g2 D) then min (g2 A) (g2 D) else g2 t := rfl
          have hjl : jn g2 A D t < 20 := by
            rw [hj]
            split <;> omega
          refine z_withR (fun hR => ?_)
          refine ziload_8_7 dX9_joinAll_141 ?_
          refine zaload_8_0 dX9_joinAll_143 ?_
          refine zg_Model_7 rfl dX9_joinAll_144 ?_
          refine z_top e1 ?_
          refine z_icmp_ge (tgt := 187) (by first | omega | exact hR.1 _ _ (by decide) | exact zrng_toInt _) (by first | omega | exact hR.1 _ _ (by decide) | exact zrng_toInt _) dX9_joinAll_147 (by decide) (fun h147 => ?_) (fun h147 => ?_)
          · omega
          · refine zaload_8_0 dX9_joinAll_150 ?_
            refine zg_Model_96 rfl dX9_joinAll_151 ?_
            refine ziload_8_7 dX9_joinAll_154 ?_
            refine zaload_8_0 dX9_joinAll_156 ?_
            refine zg_Model_96 rfl dX9_joinAll_157 ?_
            refine ziload_8_7 dX9_joinAll_160 ?_
            refine z_iald _ rfl (by decide) (by decide) rfl (by omega) dX9_joinAll_162 ?_
            refine z_top eT ?_
            refine ziload_8_6 dX9_joinAll_163 ?_
            refine z_icmp_ne (tgt := 173) (by first | omega | exact hR.1 _ _ (by decide) | exact zrng_toInt _) (by first | omega | exact hR.1 _ _ (by decide) | exact zrng_toInt _) dX9_joinAll_165 (by decide) (fun h165 => ?_) (fun h165 => ?_)
            · rw [if_neg (by omega)] at hj
              refine zaload_8_0 dX9_joinAll_173 ?_
              refine zg_Model_96 rfl dX9_joinAll_174 ?_
              refine ziload_8_7 dX9_joinAll_177 ?_
              refine z_iald _ rfl (by decide) (by decide) rfl (by omega) dX9_joinAll_179 ?_
              refine z_top eT ?_
              refine z_top (y := ((jn g2 A D t : Nat) : Int)) (by rw [hj]) ?_
              refine z_iast _ (by decide) rfl (by decide) (by decide) rfl (by omega) (by first | omega | exact hR.1 _ _ (by decide) | exact zrng_toInt _) dX9_joinAll_180 ?_
              refine z_withR (fun hR => ?_)
              refine ziinc_8_7 dX9_joinAll_181 ?_
              refine z_goto (tgt := 141) dX9_joinAll_184 (by decide) ?_
              refine iht (t + 1) _ (by omega) (f3.mu (by decide)) (fun x hx => ?_) (fun x hx1 hx2 => ?_)
              · by_cases e : x = t
                · rw [e, zmu_same]
                · rw [zmu_ne _ _ _ _ e]; exact h3 x (by omega)
              · rw [zmu_ne _ _ _ _ (by omega)]; exact h3' x (by omega) hx2
            · rw [if_pos (by omega)] at hj
              refine ziload_8_5 dX9_joinAll_168 ?_
              refine z_goto (tgt := 180) dX9_joinAll_170 (by decide) ?_
              refine z_top (y := ((jn g2 A D t : Nat) : Int)) (by rw [hj]) ?_
              refine z_iast _ (by decide) rfl (by decide) (by decide) rfl (by omega) (by first | omega | exact hR.1 _ _ (by decide) | exact zrng_toInt _) dX9_joinAll_180 ?_
              refine z_withR (fun hR => ?_)
              refine ziinc_8_7 dX9_joinAll_181 ?_
              refine z_goto (tgt := 141) dX9_joinAll_184 (by decide) ?_
              refine iht (t + 1) _ (by omega) (f3.mu (by decide)) (fun x hx => ?_) (fun x hx1 hx2 => ?_)
              · by_cases e : x = t
                · rw [e, zmu_same]
                · rw [zmu_ne _ _ _ _ e]; exact h3 x (by omega)
              · rw [zmu_ne _ _ _ _ (by omega)]; exact h3' x (by omega) hx2
      refine z_withR (fun hR => ?_)
      refine ziload_8_2 dX9_joinAll_10 ?_
      refine z_sipush dX9_joinAll_11 (by decide) ?_
      refine z_icmp_ge (tgt := 195) (by first | omega | exact hR.1 _ _ (by decide) | exact zrng_toInt _) (by first | omega | exact hR.1 _ _ (by decide) | exact zrng_toInt _) dX9_joinAll_14 (by decide) (fun h14 => ?_) (fun h14 => ?_)
      · omega
      · refine ziload_8_2 dX9_joinAll_17 ?_
        refine z_bipush dX9_joinAll_18 (by decide) ?_
        refine z_idiv (by omega) (by omega) dX9_joinAll_20 ?_
        refine z_top (y := (A : Int)) (by omega) ?_
        refine zistore_8_3 dX9_joinAll_21 ?_
        refine ziload_8_2 dX9_joinAll_22 ?_
        refine z_bipush dX9_joinAll_23 (by decide) ?_
        refine z_irem (by omega) (by omega) dX9_joinAll_25 ?_
        refine z_top (y := (D : Int)) (by omega) ?_
        refine zistore_8_4 dX9_joinAll_26 ?_
        refine ziload_8_3 dX9_joinAll_28 ?_
        refine zaload_8_0 dX9_joinAll_29 ?_
        refine zg_Model_7 rfl dX9_joinAll_30 ?_
        refine z_top e1 ?_
        refine z_icmp_ge (tgt := 189) (by first | omega | exact hR.1 _ _ (by decide) | exact zrng_toInt _) (by first | omega | exact hR.1 _ _ (by decide) | exact zrng_toInt _) dX9_joinAll_33 (by decide) (fun h33 => ?_) (fun h33 => ?_)
        · have hs : A < T → D < T → N A D = true → g2 A = g2 D := fun z => by omega
          exact skip _ _ _ _ _ hs
        · have hAT : A < T := by omega
          have mA := (j2.1 A hAT).1
          refine ziload_8_4 dX9_joinAll_36 ?_
          refine zaload_8_0 dX9_joinAll_38 ?_
          refine zg_Model_7 rfl dX9_joinAll_39 ?_
          refine z_top e1 ?_
          refine z_icmp_ge (tgt := 189) (by first | omega | exact hR.1 _ _ (by decide) | exact zrng_toInt _) (by first | omega | exact hR.1 _ _ (by decide) | exact zrng_toInt _) dX9_joinAll_42 (by decide) (fun h42 => ?_) (fun h42 => ?_)
          · have hs : A < T → D < T → N A D = true → g2 A = g2 D := fun _ z => by omega
            exact skip _ _ _ _ _ hs
          · have hDT : D < T := by omega
            have mD := (j2.1 D hDT).1
            have hnk : M2 64 (20 * A + D) = b01 (N A D) := by rw [f2 64 (by decide)]; exact hN A D hAT hDT
            refine zaload_8_0 dX9_joinAll_45 ?_
            refine zg_Model_102 rfl dX9_joinAll_46 ?_
            refine ziload_8_2 dX9_joinAll_49 ?_
            refine z_zald (20 * A + D) rfl (by decide) (by decide) (by omega) (by omega) dX9_joinAll_50 ?_
            refine z_top hnk ?_
            refine z_if_eq (tgt := 189) (b01_r _) dX9_joinAll_51 (by decide) (fun h51 => ?_) (fun h51 => ?_)
            · have hs : A < T → D < T → N A D = true → g2 A = g2 D := fun _ _ z => by rw [b01_f h51] at z; cases z
              exact skip _ _ _ _ _ hs
            · have hNA := b01_t h51
              refine zaload_8_0 dX9_joinAll_54 ?_
              refine zg_Model_96 rfl dX9_joinAll_55 ?_
              refine ziload_8_3 dX9_joinAll_58 ?_
              refine z_iald _ rfl (by decide) (by decide) rfl (by omega) dX9_joinAll_59 ?_
              refine z_top (h2 A hAT) ?_
              refine zaload_8_0 dX9_joinAll_60 ?_
              refine zg_Model_96 rfl dX9_joinAll_61 ?_
              refine ziload_8_4 dX9_joinAll_64 ?_
              refine z_iald _ rfl (by decide) (by decide) rfl (by omega) dX9_joinAll_66 ?_
              refine z_top (h2 D hDT) ?_
              refine z_icmp_eq (tgt := 189) (by first | omega | exact hR.1 _ _ (by decide) | exact zrng_toInt _) (by first | omega | exact hR.1 _ _ (by decide) | exact zrng_toInt _) dX9_joinAll_67 (by decide) (fun h67 => ?_) (fun h67 => ?_)
              · have hs : A < T → D < T → N A D = true → g2 A = g2 D := fun _ _ _ => by omega
                exact skip _ _ _ _ _ hs
              · refine zaload_8_0 dX9_joinAll_70 ?_
                refine zg_Model_96 rfl dX9_joinAll_71 ?_
                refine ziload_8_3 dX9_joinAll_74 ?_
                refine z_iald _ rfl (by decide) (by decide) rfl (by omega) dX9_joinAll_75 ?_
                refine z_top (h2 A hAT) ?_
                refine zaload_8_0 dX9_joinAll_76 ?_
                refine zg_Model_96 rfl dX9_joinAll_77 ?_
                refine ziload_8_4 dX9_joinAll_80 ?_
                refine z_iald _ rfl (by decide) (by decide) rfl (by omega) dX9_joinAll_82 ?_
                refine z_top (h2 D hDT) ?_
                refine z_icmp_ge (tgt := 95) (by first | omega | exact hR.1 _ _ (by decide) | exact zrng_toInt _) (by first | omega | exact hR.1 _ _ (by decide) | exact zrng_toInt _) dX9_joinAll_83 (by decide) (fun h83 => ?_) (fun h83 => ?_)
                · refine zaload_8_0 dX9_joinAll_95 ?_
                  refine zg_Model_96 rfl dX9_joinAll_96 ?_
                  refine ziload_8_4 dX9_joinAll_99 ?_
                  refine z_iald _ rfl (by decide) (by decide) rfl (by omega) dX9_joinAll_101 ?_
                  refine z_top (h2 D hDT) ?_
                  refine z_top (y := ((min (g2 A) (g2 D) : Nat) : Int)) (by omega) ?_
                  refine zistore_8_5 dX9_joinAll_102 ?_
                  refine zaload_8_0 dX9_joinAll_104 ?_
                  refine zg_Model_96 rfl dX9_joinAll_105 ?_
                  refine ziload_8_3 dX9_joinAll_108 ?_
                  refine z_iald _ rfl (by decide) (by decide) rfl (by omega) dX9_joinAll_109 ?_
                  refine z_top (h2 A hAT) ?_
                  refine zaload_8_0 dX9_joinAll_110 ?_
                  refine zg_Model_96 rfl dX9_joinAll_111 ?_
                  refine ziload_8_4 dX9_joinAll_114 ?_
                  refine z_iald _ rfl (by decide) (by decide) rfl (by omega) dX9_joinAll_116 ?_
                  refine z_top (h2 D hDT) ?_
                  refine z_icmp_ge (tgt := 130) (by first | omega | exact hR.1 _ _ (by decide) | exact zrng_toInt _) (by first | omega | exact hR.1 _ _ (by decide) | exact zrng_toInt _) dX9_joinAll_117 (by decide) (fun h117 => ?_) (fun h117 => ?_)
                  · refine zaload_8_0 dX9_joinAll_130 ?_
                    refine zg_Model_96 rfl dX9_joinAll_131 ?_
                    refine ziload_8_3 dX9_joinAll_134 ?_
                    refine z_iald _ rfl (by decide) (by decide) rfl (by omega) dX9_joinAll_135 ?_
                    refine z_top (h2 A hAT) ?_
                    refine z_top (y := ((max (g2 A) (g2 D) : Nat) : Int)) (by omega) ?_
                    refine zistore_8_6 dX9_joinAll_136 ?_
                    refine z_iconst dX9_joinAll_138 ?_
                    refine zistore_8_7 dX9_joinAll_139 ?_
                    exact tloop hAT hDT hNA (by omega) T 0 M2 (by omega) f2 (fun x h => absurd h (Nat.not_lt_zero _)) (fun x _ hx => h2 x hx)
                  · refine zaload_8_0 dX9_joinAll_120 ?_
                    refine zg_Model_96 rfl dX9_joinAll_121 ?_
                    refine ziload_8_4 dX9_joinAll_124 ?_
                    refine z_iald _ rfl (by decide) (by decide) rfl (by omega) dX9_joinAll_126 ?_
                    refine z_top (h2 D hDT) ?_
                    refine z_goto (tgt := 136) dX9_joinAll_127 (by decide) ?_
                    refine z_top (y := ((max (g2 A) (g2 D) : Nat) : Int)) (by omega) ?_
                    refine zistore_8_6 dX9_joinAll_136 ?_
                    refine z_iconst dX9_joinAll_138 ?_
                    refine zistore_8_7 dX9_joinAll_139 ?_
                    exact tloop hAT hDT hNA (by omega) T 0 M2 (by omega) f2 (fun x h => absurd h (Nat.not_lt_zero _)) (fun x _ hx => h2 x hx)
                · refine zaload_8_0 dX9_joinAll_86 ?_
                  refine zg_Model_96 rfl dX9_joinAll_87 ?_
                  refine ziload_8_3 dX9_joinAll_90 ?_
                  refine z_iald _ rfl (by decide) (by decide) rfl (by omega) dX9_joinAll_91 ?_
                  refine z_top (h2 A hAT) ?_
                  refine z_goto (tgt := 102) dX9_joinAll_92 (by decide) ?_
                  refine z_top (y := ((min (g2 A) (g2 D) : Nat) : Int)) (by omega) ?_
                  refine zistore_8_5 dX9_joinAll_102 ?_
                  refine zaload_8_0 dX9_joinAll_104 ?_
                  refine zg_Model_96 rfl dX9_joinAll_105 ?_
                  refine ziload_8_3 dX9_joinAll_108 ?_
                  refine z_iald _ rfl (by decide) (by decide) rfl (by omega) dX9_joinAll_109 ?_
                  refine z_top (h2 A hAT) ?_
                  refine zaload_8_0 dX9_joinAll_110 ?_
                  refine zg_Model_96 rfl dX9_joinAll_111 ?_
                  refine ziload_8_4 dX9_joinAll_114 ?_
                  refine z_iald _ rfl (by decide) (by decide) rfl (by omega) dX9_joinAll_116 ?_
                  refine z_top (h2 D hDT) ?_
                  refine z_icmp_ge (tgt := 130) (by first | omega | exact hR.1 _ _ (by decide) | exact zrng_toInt _) (by first | omega | exact hR.1 _ _ (by decide) | exact zrng_toInt _) dX9_joinAll_117 (by decide) (fun h117 => ?_) (fun h117 => ?_)
                  · refine zaload_8_0 dX9_joinAll_130 ?_
                    refine zg_Model_96 rfl dX9_joinAll_131 ?_
                    refine ziload_8_3 dX9_joinAll_134 ?_
                    refine z_iald _ rfl (by decide) (by decide) rfl (by omega) dX9_joinAll_135 ?_
                    refine z_top (h2 A hAT) ?_
                    refine z_top (y := ((max (g2 A) (g2 D) : Nat) : Int)) (by omega) ?_
                    refine zistore_8_6 dX9_joinAll_136 ?_
                    refine z_iconst dX9_joinAll_138 ?_
                    refine zistore_8_7 dX9_joinAll_139 ?_
                    exact tloop hAT hDT hNA (by omega) T 0 M2 (by omega) f2 (fun x h => absurd h (Nat.not_lt_zero _)) (fun x _ hx => h2 x hx)
                  · refine zaload_8_0 dX9_joinAll_120 ?_
                    refine zg_Model_96 rfl dX9_joinAll_121 ?_
                    refine ziload_8_4 dX9_joinAll_124 ?_
                    refine z_iald _ rfl (by decide) (by decide) rfl (by omega) dX9_joinAll_126 ?_
                    refine z_top (h2 D hDT) ?_
                    refine z_goto (tgt := 136) dX9_joinAll_127 (by decide) ?_
                    refine z_top (y := ((max (g2 A) (g2 D) : Nat) : Int)) (by omega) ?_
                    refine zistore_8_6 dX9_joinAll_136 ?_
                    refine z_iconst dX9_joinAll_138 ?_
                    refine zistore_8_7 dX9_joinAll_139 ?_
                    exact tloop hAT hDT hNA (by omega) T 0 M2 (by omega) f2 (fun x h => absurd h (Nat.not_lt_zero _)) (fun x _ hx => h2 x hx)
  have wloop : ∀ (c : Nat) (M1 : zMem) (g1 : Nat → Nat) (l2 l3 l4 l5 l6 l7 : Option zAV), ngr g1 T ≤ c → zfr [62] M M1 → jo T g N g1 → (∀ x, x < T → M1 62 x = g1 x) → zV zd_Model_joinAll 0 2 [some (zr 9), some (zi 1), l2, l3, l4, l5, l6, l7] [] M1 post := by
    intro c
    induction c with
    | zero =>
      intro M1 g1 l2 l3 l4 l5 l6 l7 hc f1 j1 h1
      have p := pass g1 (fun M2 g2 l2 l3 l4 l5 l6 l7 f2 j2 h2 hlt => absurd hlt (by omega)) 400 0 M1 g1 false
      refine z_withR (fun hR => ?_)
      refine ziload_8_1 dX9_joinAll_2 ?_
      refine z_if_eq (tgt := 198) (by first | omega | exact hR.1 _ _ (by decide) | exact zrng_toInt _) dX9_joinAll_3 (by decide) (fun h3 => ?_) (fun h3 => ?_)
      · exact absurd h3 (by decide)
      · refine z_iconst dX9_joinAll_6 ?_
        refine zistore_8_1 dX9_joinAll_7 ?_
        refine z_iconst dX9_joinAll_8 ?_
        refine zistore_8_2 dX9_joinAll_9 ?_
        exact p _ _ _ _ _ (by omega) f1 j1 h1 (by simp) (fun _ x y _ _ hz => absurd hz (Nat.not_lt_zero _))
    | succ c ih =>
      intro M1 g1 l2 l3 l4 l5 l6 l7 hc f1 j1 h1
      have p := pass g1 (fun M2 g2 l2 l3 l4 l5 l6 l7 f2 j2 h2 hlt => ih M2 g2 l2 l3 l4 l5 l6 l7 (by omega) f2 j2 h2) 400 0 M1 g1 false
      refine z_withR (fun hR => ?_)
      refine ziload_8_1 dX9_joinAll_2 ?_
      refine z_if_eq (tgt := 198) (by first | omega | exact hR.1 _ _ (by decide) | exact zrng_toInt _) dX9_joinAll_3 (by decide) (fun h3 => ?_) (fun h3 => ?_)
      · exact absurd h3 (by decide)
      · refine z_iconst dX9_joinAll_6 ?_
        refine zistore_8_1 dX9_joinAll_7 ?_
        refine z_iconst dX9_joinAll_8 ?_
        refine zistore_8_2 dX9_joinAll_9 ?_
        exact p _ _ _ _ _ (by omega) f1 j1 h1 (by simp) (fun _ x y _ _ hz => absurd hz (Nat.not_lt_zero _))
  refine z_iconst dX9_joinAll_0 ?_
  refine zistore_8_1 dX9_joinAll_1 ?_
  exact wloop _ M g _ _ _ _ _ _ (Nat.le_refl _) zfr.rf (jo.rf hm) hg
