theorem tbl.fr {S : List Nat} {M M' : zMem} {n k : Nat} (h : tbl M n k) (hf : zfr S M M') (h3 : 3 ∉ S) (h15 : 15 ∉ S) : tbl M' n k := by
  unfold tbl at *
  rw [hf 3 h3, hf 15 h15]
  exact h
/-- the class's terms -/
def tmC (M : zMem) (L R : Nat → Nat) (T : Nat) : Prop := M 1 3 = T ∧ 3 ≤ T ∧ T ≤ 20 ∧ wfT L R T ∧ (∀ t, 3 ≤ t → t < T → M 10 t = L t ∧ M 11 t = R t) ∧ ∀ t, t < T → M 12 t = nd L R t
theorem tmC.fr {S : List Nat} {M M' : zMem} {L R : Nat → Nat} {T : Nat} (h : tmC M L R T) (hf : zfr S M M') (h1 : 1 ∉ S) (h10 : 10 ∉ S) (h11 : 11 ∉ S) (h12 : 12 ∉ S) : tmC M' L R T := by
  unfold tmC at *
  rw [hf 1 h1, hf 10 h10, hf 11 h11, hf 12 h12]
  exact h
theorem nd_lt20 {L R : Nat → Nat} {T t : Nat} (hw : wfT L R T) (hT : T ≤ 20) (ht : t < T) : nd L R t < 1048576 := by
  have h1 := nd_lt hw ht
  have h2 : 2 ^ (t + 1) ≤ 2 ^ 20 := Nat.pow_le_pow_right (by decide) (by omega)
  omega
theorem sp_Table_thingsFor (M : zMem) (n l N : Nat) (hs : M 3 2 = n) (hn : okn n) (hl : l < 20) (hN : N < 1048576) : zSp zd_Table_thingsFor 0 [zr 3, zi l, zi N] M (fun v M' => M' = M ∧ v = ((if N.testBit l then n else 1 : Nat) : Int)) := by
  refine zSp_in 0 [some (zr 3), some (zi l), some (zi N)] rfl rfl (by decide +kernel) rfl ?_
  refine z_withR (fun hR => ?_)
  have hb := z_bit (a := N) (l := l) (by omega) (by omega)
  have hn3 := hn.le
  refine ziload_3_2 dX6_thingsFor_0 ?_
  refine ziload_3_1 dX6_thingsFor_1 ?_
  refine z_ishr dX6_thingsFor_2 ?_
  refine z_iconst dX6_thingsFor_3 ?_
  refine z_iand dX6_thingsFor_4 ?_
  refine z_top hb ?_
  refine z_if_eq (tgt := 15) (by split <;> omega) dX6_thingsFor_5 (by decide) (fun h5 => ?_) (fun h5 => ?_)
  · have h1 : N.testBit l = false := by revert h5; cases N.testBit l <;> simp
    refine z_iconst dX6_thingsFor_15 ?_
    refine z_iret rfl ?_ dX6_thingsFor_16
    exact ⟨rfl, by rw [h1]; rfl⟩
  · have h1 : N.testBit l = true := by revert h5; cases N.testBit l <;> simp
    refine zaload_3_0 dX6_thingsFor_8 ?_
    refine zg_Table_20 rfl dX6_thingsFor_9 ?_
    refine z_top hs ?_
    refine z_goto (tgt := 16) dX6_thingsFor_12 (by decide) ?_
    refine z_iret rfl ?_ dX6_thingsFor_16
    exact ⟨rfl, by rw [h1]; rfl⟩
theorem sp_Table_alikeForZ (M : zMem) (L R : Nat → Nat) (T n k a b x y th : Nat) (hn : okn n) (ht : tbl M n k) (hT : tmC M L R T) (ha : a < T) (hb : b < T) (hx : x < n) (hy : y < n) (hth : th ≤ n) : zSp zd_Table_alikeForZ 0 [zr 3, zr 1, zi a, zi b, zi x, zi y, zi th] M (fun v M' => zfr [16] M M' ∧ v = if (∀ z, z < th → ev L R n k x y z a = ev L R n k x y z b) then 1 else 0) := by
  refine zSp_in 3 [some (zr 3), some (zr 1), some (zi a), some (zi b), some (zi x), some (zi y), some (zi th), none, none, none] rfl rfl (by decide +kernel) rfl ?_
  refine z_withR (fun hR => ?_)
  have hn3 := hn.le
  have hn0 := hn.pos
  obtain ⟨hT1, hT3, hT20, hw, hLR, hnd⟩ := id hT
  have na := nd_lt20 hw hT20 ha
  have nb := nd_lt20 hw hT20 hb
  have hor := zOr_nat (a := nd L R a) (b := nd L R b) (by omega) (by omega)
  have hNb : nd L R a ||| nd L R b < 1048576 := Nat.or_lt_two_pow (n := 20) na nb
  have hNa1 : (nd L R a ||| nd L R b).testBit a = true := by rw [Nat.testBit_or, nd_self hw ha]; rfl
  have hNb1 : (nd L R a ||| nd L R b).testBit b = true := by rw [Nat.testBit_or, nd_self hw hb]; simp
  have hcl : ∀ u, (nd L R a ||| nd L R b).testBit u = true → 3 ≤ u → (nd L R a ||| nd L R b).testBit (L u) = true ∧ (nd L R a ||| nd L R b).testBit (R u) = true := by
    intro u hu h3
    rw [Nat.testBit_or, Bool.or_eq_true] at hu
    simp only [Nat.testBit_or, Bool.or_eq_true]
    rcases hu with hu | hu
    · have := (nd_closed hw ha u hu).2 h3
      exact ⟨Or.inl this.1, Or.inl this.2⟩
    · have := (nd_closed hw hb u hu).2 h3
      exact ⟨Or.inr this.1, Or.inr this.2⟩
  generalize nd L R a ||| nd L R b = N at hor hNb hNa1 hNb1 hcl
  obtain ⟨post, hpost⟩ : ∃ post : Int → zMem → Prop, post = (fun v M' => zfr [16] M M' ∧ v = if (∀ z, z < th → ev L R n k x y z a = ev L R n k x y z b) then 1 else 0) := ⟨_, rfl⟩
  rw [← hpost]
  have inner : ∀ (z : Nat), z < th → (∀ (M2 : zMem) (g : Option zAV), zfr [16] M M2 → M2 16 a = ev L R n k x y z a → M2 16 b = ev L R n k x y z b → zV zd_Table_alikeForZ 0 122 [some (zr 3), some (zr 1), some (zi a), some (zi b), some (zi x), some (zi y), some (zi th), some (zi N), some (zi z), g] [] M2 post) →
      ∀ (m t : Nat) (M1 : zMem), a + 1 ≤ t + m → b + 1 ≤ t + m → 3 ≤ t → t ≤ 20 → zfr [16] M M1 → (∀ u, u < t → u < 3 ∨ N.testBit u = true → M1 16 u = ev L R n k x y z u) → zV zd_Table_alikeForZ 0 52 [some (zr 3), some (zr 1), some (zi a), some (zi b), some (zi x), some (zi y), some (zi th), some (zi N), some (zi z), some (zi t)] [] M1 post := by
    intro z hz kk m
    induction m with
    | zero =>
      intro t M1 h1 h2 h3 h20 hf hi
      refine z_withR (fun hR => ?_)
      have ka := hi a (by omega) (Or.inr hNa1)
      have kb := hi b (by omega) (Or.inr hNb1)
      refine ziload_10_9 dX6_alikeForZ_52 ?_
      refine ziload_10_2 dX6_alikeForZ_54 ?_
      refine z_icmp_le (tgt := 64) (by first | omega | exact hR.1 _ _ (by decide) | exact zrng_toInt _) (by first | omega | exact hR.1 _ _ (by decide) | exact zrng_toInt _) dX6_alikeForZ_55 (by decide) (fun h55 => ?_) (fun h55 => ?_)
      · omega
      · refine ziload_10_9 dX6_alikeForZ_58 ?_
        refine ziload_10_3 dX6_alikeForZ_60 ?_
        refine z_icmp_gt (tgt := 122) (by first | omega | exact hR.1 _ _ (by decide) | exact zrng_toInt _) (by first | omega | exact hR.1 _ _ (by decide) | exact zrng_toInt _) dX6_alikeForZ_61 (by decide) (fun h61 => ?_) (fun h61 => ?_)
        · exact kk M1 _ hf ka kb
        · omega
    | succ m ih =>
      intro t M1 h1 h2 h3 h20 hf hi
      have body : t ≤ a ∨ t ≤ b → zV zd_Table_alikeForZ 0 64 [some (zr 3), some (zr 1), some (zi a), some (zi b), some (zi x), some (zi y), some (zi th), some (zi N), some (zi z), some (zi t)] [] M1 post := by
        intro hle
        refine z_withR (fun hR => ?_)
        have htT : t < T := by omega
        obtain ⟨hLt, hRt⟩ := hw t h3 htT
        have e10 : M1 10 t = L t := by rw [hf 10 (by decide)]; exact (hLR t h3 htT).1
        have e11 : M1 11 t = R t := by rw [hf 11 (by decide)]; exact (hLR t h3 htT).2
        have hs1 : M1 3 2 = n := by rw [hf 3 (by decide)]; exact ht.1
        have hbit := z_bit (a := N) (l := t) (by omega) (by omega)
        have zz := Nat.lt_of_lt_of_le hz hth
        have el := ev_lt (L := L) (R := R) (k := k) (x := x) (y := y) (z := z) hw hn0 hx hy zz (show L t < T by omega)
        have er := ev_lt (L := L) (R := R) (k := k) (x := x) (y := y) (z := z) hw hn0 hx hy zz (show R t < T by omega)
        have hp := pair_lt el er
        have hq9 := sq_le hn
        have e15 : M1 15 (ev L R n k x y z (L t) * n + ev L R n k x y z (R t)) = ev L R n k x y z t := by rw [hf 15 (by decide), ht.2 _ hp, ev_rec hw h3 htT]
        have evt := ev_lt (L := L) (R := R) (k := k) (x := x) (y := y) (z := z) hw hn0 hx hy zz htT
        have hv : N.testBit t = true → M1 16 (L t) = ev L R n k x y z (L t) ∧ M1 16 (R t) = ev L R n k x y z (R t) := fun h => by
          obtain ⟨q1, q2⟩ := hcl t h h3
          exact ⟨hi _ hLt (Or.inr q1), hi _ hRt (Or.inr q2)⟩
        generalize ev L R n k x y z (L t) = Vl at el hp e15 hv
        generalize ev L R n k x y z (R t) = Vr at er hp e15 hv
        refine ziload_10_7 dX6_alikeForZ_64 ?_
        refine ziload_10_9 dX6_alikeForZ_66 ?_
        refine z_ishr dX6_alikeForZ_68 ?_
        refine z_iconst dX6_alikeForZ_69 ?_
        refine z_iand dX6_alikeForZ_70 ?_
        refine z_top hbit ?_
        refine z_if_eq (tgt := 116) (by split <;> omega) dX6_alikeForZ_71 (by decide) (fun h71 => ?_) (fun h71 => ?_)
        · have hN : ¬ N.testBit t = true := by revert h71; cases N.testBit t <;> simp
          refine ziinc_10_9 dX6_alikeForZ_116 ?_
          refine z_goto (tgt := 52) dX6_alikeForZ_119 (by decide) ?_
          first
            | exact ih (t + 1) _ (by omega) (by omega) (by omega) (by omega) hf (fun u h5 h6 => by
                rcases Nat.lt_or_ge u t with q | q
                · exact hi u q h6
                · have : u = t := by omega
                  subst this
                  rcases h6 with h6 | h6
                  · omega
                  · exact absurd h6 hN)
            | exact ih (t + 1) _ (by omega) (by omega) (by omega) (by omega) (hf.mu (by decide)) (fun u h5 h6 => by
                rcases Nat.lt_or_ge u t with q | q
                · rw [zmu_ne _ _ _ _ (by omega)]; exact hi u q h6
                · rw [show u = t by omega, zmu_same])
        · have hN : N.testBit t = true := by revert h71; cases N.testBit t <;> simp
          obtain ⟨v1, v2⟩ := hv hN
          refine zaload_10_0 dX6_alikeForZ_74 ?_
          refine zg_Table_17 rfl dX6_alikeForZ_75 ?_
          refine ziload_10_9 dX6_alikeForZ_78 ?_
          refine zaload_10_0 dX6_alikeForZ_80 ?_
          refine zg_Table_9 rfl dX6_alikeForZ_81 ?_
          refine zaload_10_0 dX6_alikeForZ_84 ?_
          refine zg_Table_17 rfl dX6_alikeForZ_85 ?_
          refine zaload_10_1 dX6_alikeForZ_88 ?_
          refine zg_Table_57 rfl dX6_alikeForZ_89 ?_
          refine ziload_10_9 dX6_alikeForZ_92 ?_
          refine z_iald (t) rfl (by decide) (by decide) (by omega) (by omega) dX6_alikeForZ_94 ?_
          refine z_top e10 ?_
          refine z_iald _ rfl (by decide) (by decide) rfl (by omega) dX6_alikeForZ_95 ?_
          refine z_top v1 ?_
          refine zaload_10_0 dX6_alikeForZ_96 ?_
          refine zg_Table_20 rfl dX6_alikeForZ_97 ?_
          refine z_top hs1 ?_
          refine z_imul dX6_alikeForZ_100 ?_
          refine zaload_10_0 dX6_alikeForZ_101 ?_
          refine zg_Table_17 rfl dX6_alikeForZ_102 ?_
          refine zaload_10_1 dX6_alikeForZ_105 ?_
          refine zg_Table_60 rfl dX6_alikeForZ_106 ?_
          refine ziload_10_9 dX6_alikeForZ_109 ?_
          refine z_iald (t) rfl (by decide) (by decide) (by omega) (by omega) dX6_alikeForZ_111 ?_
          refine z_top e11 ?_
          refine z_iald _ rfl (by decide) (by decide) rfl (by omega) dX6_alikeForZ_112 ?_
          refine z_top v2 ?_
          refine z_iadd dX6_alikeForZ_113 ?_
          refine z_iald (Vl * n + Vr) rfl (by decide) (by decide) (by omega) (by omega) dX6_alikeForZ_114 ?_
          refine z_top e15 ?_
          refine z_iast (t) (by decide) rfl (by decide) (by decide) (by omega) (by omega) (by first | omega | exact hR.1 _ _ (by decide) | exact zrng_toInt _) dX6_alikeForZ_115 ?_
          refine z_withR (fun hR => ?_)
          refine ziinc_10_9 dX6_alikeForZ_116 ?_
          refine z_goto (tgt := 52) dX6_alikeForZ_119 (by decide) ?_
          first
            | exact ih (t + 1) _ (by omega) (by omega) (by omega) (by omega) hf (fun u h5 h6 => by
                rcases Nat.lt_or_ge u t with q | q
                · exact hi u q h6
                · have : u = t := by omega
                  subst this
                  rcases h6 with h6 | h6
                  · omega
                  · exact absurd h6 hN)
            | exact ih (t + 1) _ (by omega) (by omega) (by omega) (by omega) (hf.mu (by decide)) (fun u h5 h6 => by
                rcases Nat.lt_or_ge u t with q | q
                · rw [zmu_ne _ _ _ _ (by omega)]; exact hi u q h6
                · rw [show u = t by omega, zmu_same])
      refine z_withR (fun hR => ?_)
      refine ziload_10_9 dX6_alikeForZ_52 ?_
      refine ziload_10_2 dX6_alikeForZ_54 ?_
      refine z_icmp_le (tgt := 64) (by first | omega | exact hR.1 _ _ (by decide) | exact zrng_toInt _) (by first | omega | exact hR.1 _ _ (by decide) | exact zrng_toInt _) dX6_alikeForZ_55 (by decide) (fun h55 => ?_) (fun h55 => ?_)
      · exact body (by omega)
      · refine ziload_10_9 dX6_alikeForZ_58 ?_
        refine ziload_10_3 dX6_alikeForZ_60 ?_
        refine z_icmp_gt (tgt := 122) (by first | omega | exact hR.1 _ _ (by decide) | exact zrng_toInt _) (by first | omega | exact hR.1 _ _ (by decide) | exact zrng_toInt _) dX6_alikeForZ_61 (by decide) (fun h61 => ?_) (fun h61 => ?_)
        · exact kk M1 _ hf (hi a (by omega) (Or.inr hNa1)) (hi b (by omega) (Or.inr hNb1))
        · exact body (by omega)
  have outer : ∀ (m z : Nat) (M1 : zMem) (g : Option zAV), z + m = th → zfr [16] M M1 → (∀ w, w < z → ev L R n k x y w a = ev L R n k x y w b) → zV zd_Table_alikeForZ 0 18 [some (zr 3), some (zr 1), some (zi a), some (zi b), some (zi x), some (zi y), some (zi th), some (zi N), some (zi z), g] [] M1 post := by
    intro m
    induction m with
    | zero =>
      intro z M1 g hz hf he
      refine z_withR (fun hR => ?_)
      refine ziload_10_8 dX6_alikeForZ_18 ?_
      refine ziload_10_6 dX6_alikeForZ_20 ?_
      refine z_icmp_ge (tgt := 145) (by first | omega | exact hR.1 _ _ (by decide) | exact zrng_toInt _) (by first | omega | exact hR.1 _ _ (by decide) | exact zrng_toInt _) dX6_alikeForZ_22 (by decide) (fun h22 => ?_) (fun h22 => ?_)
      · refine z_iconst dX6_alikeForZ_145 ?_
        refine z_zret rfl (by omega) ?_ dX6_alikeForZ_146
        rw [hpost]
        exact ⟨hf, by rw [if_pos (fun w hw2 => he w (by omega))]⟩
      · omega
    | succ m ih =>
      intro z M1 g hz hf he
      refine z_withR (fun hR => ?_)
      have k122 : ∀ (M2 : zMem) (g : Option zAV), zfr [16] M M2 → M2 16 a = ev L R n k x y z a → M2 16 b = ev L R n k x y z b → zV zd_Table_alikeForZ 0 122 [some (zr 3), some (zr 1), some (zi a), some (zi b), some (zi x), some (zi y), some (zi th), some (zi N), some (zi z), g] [] M2 post := by
        intro M2 g hf2 e1 e2
        refine z_withR (fun hR => ?_)
        have zz : z < n := by omega
        have l1 := ev_lt (L := L) (R := R) (k := k) (x := x) (y := y) (z := z) hw hn0 hx hy zz ha
        have l2 := ev_lt (L := L) (R := R) (k := k) (x := x) (y := y) (z := z) hw hn0 hx hy zz hb
        refine zaload_10_0 dX6_alikeForZ_122 ?_
        refine zg_Table_17 rfl dX6_alikeForZ_123 ?_
        refine ziload_10_2 dX6_alikeForZ_126 ?_
        refine z_iald _ rfl (by decide) (by decide) rfl (by omega) dX6_alikeForZ_127 ?_
        refine z_top e1 ?_
        refine zaload_10_0 dX6_alikeForZ_128 ?_
        refine zg_Table_17 rfl dX6_alikeForZ_129 ?_
        refine ziload_10_3 dX6_alikeForZ_132 ?_
        refine z_iald _ rfl (by decide) (by decide) rfl (by omega) dX6_alikeForZ_133 ?_
        refine z_top e2 ?_
        refine z_icmp_eq (tgt := 139) (by first | omega | exact hR.1 _ _ (by decide) | exact zrng_toInt _) (by first | omega | exact hR.1 _ _ (by decide) | exact zrng_toInt _) dX6_alikeForZ_134 (by decide) (fun h134 => ?_) (fun h134 => ?_)
        · refine ziinc_10_8 dX6_alikeForZ_139 ?_
          refine z_goto (tgt := 18) dX6_alikeForZ_142 (by decide) ?_
          refine ih (z + 1) M2 _ (by omega) hf2 (fun w hw2 => ?_)
          rcases Nat.lt_or_ge w z with q | q
          · exact he w q
          · rw [show w = z by omega]; omega
        · refine z_iconst dX6_alikeForZ_137 ?_
          refine z_zret rfl (by omega) ?_ dX6_alikeForZ_138
          rw [hpost]
          exact ⟨hf2, by rw [if_neg (fun h => h134 (by rw [h z (by omega)]))]⟩
      refine ziload_10_8 dX6_alikeForZ_18 ?_
      refine ziload_10_6 dX6_alikeForZ_20 ?_
      refine z_icmp_ge (tgt := 145) (by first | omega | exact hR.1 _ _ (by decide) | exact zrng_toInt _) (by first | omega | exact hR.1 _ _ (by decide) | exact zrng_toInt _) dX6_alikeForZ_22 (by decide) (fun h22 => ?_) (fun h22 => ?_)
      · omega
      · refine zaload_10_0 dX6_alikeForZ_25 ?_
        refine zg_Table_17 rfl dX6_alikeForZ_26 ?_
        refine z_iconst dX6_alikeForZ_29 ?_
        refine ziload_10_4 dX6_alikeForZ_30 ?_
        refine z_iast (0) (by decide) rfl (by decide) (by decide) rfl (by omega) (by first | omega | exact hR.1 _ _ (by decide) | exact zrng_toInt _) dX6_alikeForZ_32 ?_
        refine z_withR (fun hR => ?_)
        refine zaload_10_0 dX6_alikeForZ_33 ?_
        refine zg_Table_17 rfl dX6_alikeForZ_34 ?_
        refine z_iconst dX6_alikeForZ_37 ?_
        refine ziload_10_5 dX6_alikeForZ_38 ?_
        refine z_iast (1) (by decide) rfl (by decide) (by decide) rfl (by omega) (by first | omega | exact hR.1 _ _ (by decide) | exact zrng_toInt _) dX6_alikeForZ_40 ?_
        refine z_withR (fun hR => ?_)
        refine zaload_10_0 dX6_alikeForZ_41 ?_
        refine zg_Table_17 rfl dX6_alikeForZ_42 ?_
        refine z_iconst dX6_alikeForZ_45 ?_
        refine ziload_10_8 dX6_alikeForZ_46 ?_
        refine z_iast (2) (by decide) rfl (by decide) (by decide) rfl (by omega) (by first | omega | exact hR.1 _ _ (by decide) | exact zrng_toInt _) dX6_alikeForZ_48 ?_
        refine z_withR (fun hR => ?_)
        refine z_iconst dX6_alikeForZ_49 ?_
        refine zistore_10_9 dX6_alikeForZ_50 ?_
        refine inner z (by omega) k122 20 3 _ (by omega) (by omega) (by omega) (by omega) (((hf.mu (by decide)).mu (by decide)).mu (by decide)) (fun u h5 h6 => ?_)
        rcases (show u = 0 ∨ u = 1 ∨ u = 2 by omega) with rfl | rfl | rfl <;> rfl
  refine zaload_10_1 dX6_alikeForZ_0 ?_
  refine zg_Table_54 rfl dX6_alikeForZ_1 ?_
  refine ziload_10_2 dX6_alikeForZ_4 ?_
  refine z_iald _ rfl (by decide) (by decide) rfl (by omega) dX6_alikeForZ_5 ?_
  refine z_top (hnd a ha) ?_
  refine zaload_10_1 dX6_alikeForZ_6 ?_
  refine zg_Table_54 rfl dX6_alikeForZ_7 ?_
  refine ziload_10_3 dX6_alikeForZ_10 ?_
  refine z_iald _ rfl (by decide) (by decide) rfl (by omega) dX6_alikeForZ_11 ?_
  refine z_top (hnd b hb) ?_
  refine z_ior dX6_alikeForZ_12 ?_
  refine z_top hor ?_
  refine zistore_10_7 dX6_alikeForZ_13 ?_
  refine z_iconst dX6_alikeForZ_15 ?_
  refine zistore_10_8 dX6_alikeForZ_16 ?_
  exact outer th 0 M _ (by omega) zfr.rf (fun w hw2 => by omega)
