def cr (n c : Nat) : Nat := if n = 3 then ([0, 2, 4, 1, 5, 3] : List Nat).getD c 0 else c
theorem cr_ok {n : Nat} (hn : okn n) : (∀ c, c < RN n → cr n c < RN n) ∧ ∀ r, r < RN n → ∃ c, c < RN n ∧ cr n c = r := by
  rcases hn with rfl | rfl | rfl <;> decide
theorem RN_le6 {n : Nat} (hn : okn n) : 1 ≤ RN n ∧ RN n ≤ 6 := by rcases hn with rfl | rfl | rfl <;> decide
theorem sp_Model_oldName (M : zMem) (n r v : Nat) (hn : okn n) (hr : r < RN n) (hv : v < n) (hN : ∀ w, w < 3 → M 45 w = NW r w) : zSp zd_Model_oldName 0 [zr 9, zi v] M (fun q M' => M' = M ∧ q = OD r v) := by
  refine zSp_in 0 [some (zr 9), some (zi v)] rfl rfl (by decide +kernel) rfl ?_
  refine z_withR (fun hR => ?_)
  have h0 := hN 0 (by omega)
  have h1 := hN 1 (by omega)
  have hn3 := hn.le
  have hr6 : r < 6 := by have := RN_le6 hn; omega
  have key : ∀ r, r < 6 → ∀ v, v < 3 → NW r 0 < 3 ∧ NW r 1 < 3 ∧ OD r v = if NW r 0 = v then 0 else if NW r 1 = v then 1 else 2 := by decide
  obtain ⟨k1, k2, k3⟩ := key r hr6 v (by omega)
  refine zaload_2_0 dX9_oldName_0 ?_
  refine zg_Model_45 rfl dX9_oldName_1 ?_
  refine z_iconst dX9_oldName_4 ?_
  refine z_iald (0) rfl (by decide) (by decide) rfl (by omega) dX9_oldName_5 ?_
  refine z_top h0 ?_
  refine ziload_2_1 dX9_oldName_6 ?_
  refine z_icmp_ne (tgt := 14) (by first | omega | exact hR.1 _ _ (by decide) | exact zrng_toInt _) (by first | omega | exact hR.1 _ _ (by decide) | exact zrng_toInt _) dX9_oldName_7 (by decide) (fun h7 => ?_) (fun h7 => ?_)
  · refine zaload_2_0 dX9_oldName_14 ?_
    refine zg_Model_45 rfl dX9_oldName_15 ?_
    refine z_iconst dX9_oldName_18 ?_
    refine z_iald (1) rfl (by decide) (by decide) rfl (by omega) dX9_oldName_19 ?_
    refine z_top h1 ?_
    refine ziload_2_1 dX9_oldName_20 ?_
    refine z_icmp_ne (tgt := 28) (by first | omega | exact hR.1 _ _ (by decide) | exact zrng_toInt _) (by first | omega | exact hR.1 _ _ (by decide) | exact zrng_toInt _) dX9_oldName_21 (by decide) (fun h21 => ?_) (fun h21 => ?_)
    · refine z_iconst dX9_oldName_28 ?_
      refine z_iret rfl ?_ dX9_oldName_29
      refine ⟨rfl, ?_⟩
      rw [k3]
      first
        | (rw [if_pos (show NW r 0 = v by omega)]; rfl)
        | (rw [if_neg (show ¬ NW r 0 = v by omega), if_pos (show NW r 1 = v by omega)]; rfl)
        | (rw [if_neg (show ¬ NW r 0 = v by omega), if_neg (show ¬ NW r 1 = v by omega)]; rfl)
    · refine z_iconst dX9_oldName_24 ?_
      refine z_goto (tgt := 29) dX9_oldName_25 (by decide) ?_
      refine z_iret rfl ?_ dX9_oldName_29
      refine ⟨rfl, ?_⟩
      rw [k3]
      first
        | (rw [if_pos (show NW r 0 = v by omega)]; rfl)
        | (rw [if_neg (show ¬ NW r 0 = v by omega), if_pos (show NW r 1 = v by omega)]; rfl)
        | (rw [if_neg (show ¬ NW r 0 = v by omega), if_neg (show ¬ NW r 1 = v by omega)]; rfl)
  · refine z_iconst dX9_oldName_10 ?_
    refine z_goto (tgt := 29) dX9_oldName_11 (by decide) ?_
    refine z_iret rfl ?_ dX9_oldName_29
    refine ⟨rfl, ?_⟩
    rw [k3]
    first
      | (rw [if_pos (show NW r 0 = v by omega)]; rfl)
      | (rw [if_neg (show ¬ NW r 0 = v by omega), if_pos (show NW r 1 = v by omega)]; rfl)
      | (rw [if_neg (show ¬ NW r 0 = v by omega), if_neg (show ¬ NW r 1 = v by omega)]; rfl)
theorem sp_Model_renamed (M : zMem) (n k c : Nat) (hn : n = 2 ∨ n = 3) (hc : c < RN n) (ht : tbR M n k) : zSp zd_Model_renamed 1 [zr 9, zi c] M (fun q M' => zfr [45] M M' ∧ q = rho n (cr n c) k) := by
  refine zSp_in 4 [some (zr 9), some (zi c), none, none, none, none] rfl rfl (by decide +kernel) rfl ?_
  refine z_withR (fun hR => ?_)
  have hok : okn n := by unfold okn; omega
  have hsq := sq_le hok
  have hn0 := hok.pos
  have hn3 := hok.le
  have hrr := (cr_ok hok).1 c hc
  obtain ⟨post, hpost⟩ : ∃ post : Int → zMem → Prop, post = (fun (q : Int) M' => zfr [45] M M' ∧ q = rho n (cr n c) k) := ⟨_, rfl⟩
  rw [← hpost]
  have loop : ∀ (d j : Nat) (M1 : zMem) (l4 l5 : Option zAV), j + d = n * n → zfr [45] M M1 → (∀ w, w < 3 → M1 45 w = NW (cr n c) w) → zV zd_Model_renamed 1 99 [some (zr 9), some (zi c), some (zi (encF n (rhoF n (cr n c) k) j : Nat)), some (zi j), l4, l5] [] M1 post := by
    intro d
    induction d with
    | zero =>
      intro j M1 l4 l5 hj hf hN
      have hs : M1 9 8 = n := by rw [hf 9 (by decide)]; exact ht.1
      refine z_withR (fun hR => ?_)
      refine ziload_6_3 dX9_renamed_99 ?_
      refine zaload_6_0 dX9_renamed_100 ?_
      refine zg_Model_124 rfl dX9_renamed_101 ?_
      refine z_top hs ?_
      refine zaload_6_0 dX9_renamed_104 ?_
      refine zg_Model_124 rfl dX9_renamed_105 ?_
      refine z_top hs ?_
      refine z_imul dX9_renamed_108 ?_
      rw [← Int.natCast_mul]
      refine z_icmp_ge (tgt := 170) (by first | omega | exact hR.1 _ _ (by decide) | exact zrng_toInt _) (by first | omega | exact hR.1 _ _ (by decide) | exact zrng_toInt _) dX9_renamed_109 (by decide) (fun h109 => ?_) (fun h109 => ?_)
      · refine ziload_6_2 dX9_renamed_170 ?_
        refine z_iret rfl ?_ dX9_renamed_171
        rw [hpost]
        have e : j = n * n := by omega
        subst e
        exact ⟨hf, rfl⟩
      · omega
    | succ d ih =>
      intro j M1 l4 l5 hj hf hN
      have hs : M1 9 8 = n := by rw [hf 9 (by decide)]; exact ht.1
      have jd1 : j / n < n := Nat.div_lt_of_lt_mul (by omega)
      have jd2 : j % n < n := Nat.mod_lt _ hn0
      obtain ⟨x, hx⟩ : ∃ x, x = j / n := ⟨_, rfl⟩
      obtain ⟨y, hy⟩ : ∃ y, y = j % n := ⟨_, rfl⟩
      rw [← hx] at jd1
      rw [← hy] at jd2
      have o1 := (NW_ok hok hrr jd1).2.1
      have o2 := (NW_ok hok hrr jd2).2.1
      have hidx : OD (cr n c) x * n + OD (cr n c) y < n * n := by
        have : OD (cr n c) x * n + n ≤ n * n := by rw [← Nat.succ_mul]; exact Nat.mul_le_mul_right _ (by omega)
        omega
      have tb : M1 40 (OD (cr n c) x * n + OD (cr n c) y) = dg n k (OD (cr n c) x * n + OD (cr n c) y) := by rw [hf 40 (by decide)]; exact ht.2 _ hidx
      have hdl := dg_lt (n := n) (k := k) (j := OD (cr n c) x * n + OD (cr n c) y) hn0
      have eN := hN (dg n k (OD (cr n c) x * n + OD (cr n c) y)) (by omega)
      have eF : rhoF n (cr n c) k j = NW (cr n c) (dg n k (OD (cr n c) x * n + OD (cr n c) y)) := by unfold rhoF; rw [← hx, ← hy]
      have hlt := rhoF_lt (n := n) (r := cr n c) (k := k) (j := j) hok hrr
      have hE : encF n (rhoF n (cr n c) k) (j + 1) = encF n (rhoF n (cr n c) k) j * n + rhoF n (cr n c) k j := rfl
      have hEl : encF n (rhoF n (cr n c) k) j ≤ 19683 := by
        have h1 := encF_lt (n := n) (f := rhoF n (cr n c) k) hn0 j (fun i _ => rhoF_lt hok hrr)
        have h2 : n ^ j ≤ n ^ (n * n) := Nat.pow_le_pow_right hn0 (by omega)
        have h3 : n ^ (n * n) ≤ 19683 := by rcases hn with rfl | rfl <;> decide
        omega
      have k1 := ih (j + 1)
      rw [hE, eF] at k1
      generalize encF n (rhoF n (cr n c) k) j = E at hEl k1 ⊢
      have hEn : E * n ≤ 19683 * 3 := Nat.mul_le_mul hEl hn3
      refine z_withR (fun hR => ?_)
      refine ziload_6_3 dX9_renamed_99 ?_
      refine zaload_6_0 dX9_renamed_100 ?_
      refine zg_Model_124 rfl dX9_renamed_101 ?_
      refine z_top hs ?_
      refine zaload_6_0 dX9_renamed_104 ?_
      refine zg_Model_124 rfl dX9_renamed_105 ?_
      refine z_top hs ?_
      refine z_imul dX9_renamed_108 ?_
      rw [← Int.natCast_mul]
      refine z_icmp_ge (tgt := 170) (by first | omega | exact hR.1 _ _ (by decide) | exact zrng_toInt _) (by first | omega | exact hR.1 _ _ (by decide) | exact zrng_toInt _) dX9_renamed_109 (by decide) (fun h109 => ?_) (fun h109 => ?_)
      · omega
      · refine zaload_6_0 dX9_renamed_112 ?_
        refine ziload_6_3 dX9_renamed_113 ?_
        refine zaload_6_0 dX9_renamed_114 ?_
        refine zg_Model_124 rfl dX9_renamed_115 ?_
        refine z_top hs ?_
        refine z_idiv (by omega) (by omega) dX9_renamed_118 ?_
        refine z_top (y := (x : Int)) (by rw [hx]; rfl) ?_
        refine zc_Model_146 rfl dX9_renamed_119 (by decide) (Nat.le_of_ble_eq_true rfl) (sp_Model_oldName M1 n (cr n c) x hok hrr jd1 hN) (fun r119 M119 hq119 => ?_)
        refine z_withR (fun hR => ?_)
        have e119 := hq119.1.symm
        subst e119
        have q119 := hq119.2
        subst q119
        refine zistore_6_4 dX9_renamed_122 ?_
        refine zaload_6_0 dX9_renamed_124 ?_
        refine ziload_6_3 dX9_renamed_125 ?_
        refine zaload_6_0 dX9_renamed_126 ?_
        refine zg_Model_124 rfl dX9_renamed_127 ?_
        refine z_top hs ?_
        refine z_irem (by omega) (by omega) dX9_renamed_130 ?_
        refine z_top (y := (y : Int)) (by rw [hy]; rfl) ?_
        refine zc_Model_146 rfl dX9_renamed_131 (by decide) (Nat.le_of_ble_eq_true rfl) (sp_Model_oldName M1 n (cr n c) y hok hrr jd2 hN) (fun r131 M131 hq131 => ?_)
        refine z_withR (fun hR => ?_)
        have e131 := hq131.1.symm
        subst e131
        have q131 := hq131.2
        subst q131
        refine zistore_6_5 dX9_renamed_134 ?_
        refine ziload_6_2 dX9_renamed_136 ?_
        refine zaload_6_0 dX9_renamed_137 ?_
        refine zg_Model_124 rfl dX9_renamed_138 ?_
        refine z_top hs ?_
        refine z_imul dX9_renamed_141 ?_
        rw [← Int.natCast_mul]
        refine zaload_6_0 dX9_renamed_142 ?_
        refine zg_Model_45 rfl dX9_renamed_143 ?_
        refine zaload_6_0 dX9_renamed_146 ?_
        refine zg_Model_29 rfl dX9_renamed_147 ?_
        refine zaload_6_0 dX9_renamed_150 ?_
        refine zg_Model_124 rfl dX9_renamed_151 ?_
        refine z_top hs ?_
        refine ziload_6_4 dX9_renamed_154 ?_
        refine z_imul dX9_renamed_156 ?_
        rw [show (n : Int) * ((OD (cr n c) x : Nat) : Int) = ((OD (cr n c) x * n : Nat) : Int) by rw [Int.natCast_mul, Int.mul_comm]]
        refine ziload_6_5 dX9_renamed_157 ?_
        refine z_iadd dX9_renamed_159 ?_
        rw [← Int.natCast_add]
        refine z_iald _ rfl (by decide) (by decide) rfl (by omega) dX9_renamed_160 ?_
        refine z_top tb ?_
        refine z_iald _ rfl (by decide) (by decide) rfl (by omega) dX9_renamed_161 ?_
        refine z_top eN ?_
        refine z_iadd dX9_renamed_162 ?_
        rw [← Int.natCast_add]
        refine zistore_6_2 dX9_renamed_163 ?_
        refine ziinc_6_3 dX9_renamed_164 ?_
        refine z_goto (tgt := 99) dX9_renamed_167 (by decide) ?_
        exact k1 M1 _ _ (by omega) hf hN
  have hs : M 9 8 = n := ht.1
  have hcs : (n = 2 ∧ (c = 0 ∨ c = 1)) ∨ (n = 3 ∧ (c = 0 ∨ c = 1 ∨ c = 2 ∨ c = 3 ∨ c = 4 ∨ c = 5)) := by
    rcases hn with rfl | rfl
    · have : RN 2 = 2 := rfl
      omega
    · have : RN 3 = 6 := rfl
      omega
  rcases hcs with ⟨rfl, rfl | rfl⟩ | ⟨rfl, rfl | rfl | rfl | rfl | rfl | rfl⟩
  · have hs := hs
    refine zaload_6_0 dX9_renamed_0 ?_
    refine zg_Model_45 rfl dX9_renamed_1 ?_
    refine z_iconst dX9_renamed_4 ?_
    refine zaload_6_0 dX9_renamed_5 ?_
    refine zg_Model_124 rfl dX9_renamed_6 ?_
    refine z_top hs ?_
    refine z_iconst dX9_renamed_9 ?_
    refine z_icmp_ne (tgt := 19) (by first | omega | exact hR.1 _ _ (by decide) | exact zrng_toInt _) (by first | omega | exact hR.1 _ _ (by decide) | exact zrng_toInt _) dX9_renamed_10 (by decide) (fun h10 => ?_) (fun h10 => ?_)
    · refine ziload_6_1 dX9_renamed_19 ?_
      refine z_iconst dX9_renamed_20 ?_
      refine z_irem (by omega) (by omega) dX9_renamed_21 ?_
      refine z_top (y := 0) (by decide) ?_
      refine z_iast (0) (by decide) rfl (by decide) (by decide) rfl (by omega) (by first | omega | exact hR.1 _ _ (by decide) | exact zrng_toInt _) dX9_renamed_22 ?_
      refine z_withR (fun hR => ?_)
      refine zaload_6_0 dX9_renamed_23 ?_
      refine zg_Model_45 rfl dX9_renamed_24 ?_
      refine z_iconst dX9_renamed_27 ?_
      refine zaload_6_0 dX9_renamed_28 ?_
      refine zg_Model_124 rfl dX9_renamed_29 ?_
      refine z_top hs ?_
      refine z_iconst dX9_renamed_32 ?_
      refine z_icmp_ne (tgt := 68) (by first | omega | exact hR.1 _ _ (by decide) | exact zrng_toInt _) (by first | omega | exact hR.1 _ _ (by decide) | exact zrng_toInt _) dX9_renamed_33 (by decide) (fun h33 => ?_) (fun h33 => ?_)
      · refine z_iconst dX9_renamed_68 ?_
        refine ziload_6_1 dX9_renamed_69 ?_
        refine z_iconst dX9_renamed_70 ?_
        refine z_irem (by omega) (by omega) dX9_renamed_71 ?_
        refine z_isub dX9_renamed_72 ?_
        refine z_top (y := 1) (by decide) ?_
        refine z_iast (1) (by decide) rfl (by decide) (by decide) rfl (by omega) (by first | omega | exact hR.1 _ _ (by decide) | exact zrng_toInt _) dX9_renamed_73 ?_
        refine z_withR (fun hR => ?_)
        refine zaload_6_0 dX9_renamed_74 ?_
        refine zg_Model_45 rfl dX9_renamed_75 ?_
        refine z_iconst dX9_renamed_78 ?_
        refine z_iconst dX9_renamed_79 ?_
        refine zaload_6_0 dX9_renamed_80 ?_
        refine zg_Model_45 rfl dX9_renamed_81 ?_
        refine z_iconst dX9_renamed_84 ?_
        refine z_iald (0) rfl (by decide) (by decide) rfl (by omega) dX9_renamed_85 ?_
        refine z_top ((zmu_ne _ _ _ _ (by decide)).trans (zmu_same _ _ _ _)) ?_
        refine z_isub dX9_renamed_86 ?_
        refine zaload_6_0 dX9_renamed_87 ?_
        refine zg_Model_45 rfl dX9_renamed_88 ?_
        refine z_iconst dX9_renamed_91 ?_
        refine z_iald (1) rfl (by decide) (by decide) rfl (by omega) dX9_renamed_92 ?_
        refine z_top (zmu_same _ _ _ _) ?_
        refine z_isub dX9_renamed_93 ?_
        refine z_top (y := 2) (by decide) ?_
        refine z_iast (2) (by decide) rfl (by decide) (by decide) rfl (by omega) (by first | omega | exact hR.1 _ _ (by decide) | exact zrng_toInt _) dX9_renamed_94 ?_
        refine z_withR (fun hR => ?_)
        refine z_iconst dX9_renamed_95 ?_
        refine zistore_6_2 dX9_renamed_96 ?_
        refine z_iconst dX9_renamed_97 ?_
        refine zistore_6_3 dX9_renamed_98 ?_
        refine loop (2 * 2) 0 _ _ _ (by decide) (((zfr.rf.mu (by decide)).mu (by decide)).mu (by decide)) (fun w hw => ?_)
        rcases (show w = 0 ∨ w = 1 ∨ w = 2 by omega) with rfl | rfl | rfl
        · rw [zmu_ne _ _ _ _ (by decide), zmu_ne _ _ _ _ (by decide), zmu_same]; rfl
        · rw [zmu_ne _ _ _ _ (by decide), zmu_same]; rfl
        · rw [zmu_same]; rfl
      · exact absurd h33 (by decide)
    · exact absurd h10 (by decide)
  · have hs := hs
    refine zaload_6_0 dX9_renamed_0 ?_
    refine zg_Model_45 rfl dX9_renamed_1 ?_
    refine z_iconst dX9_renamed_4 ?_
    refine zaload_6_0 dX9_renamed_5 ?_
    refine zg_Model_124 rfl dX9_renamed_6 ?_
    refine z_top hs ?_
    refine z_iconst dX9_renamed_9 ?_
    refine z_icmp_ne (tgt := 19) (by first | omega | exact hR.1 _ _ (by decide) | exact zrng_toInt _) (by first | omega | exact hR.1 _ _ (by decide) | exact zrng_toInt _) dX9_renamed_10 (by decide) (fun h10 => ?_) (fun h10 => ?_)
    · refine ziload_6_1 dX9_renamed_19 ?_
      refine z_iconst dX9_renamed_20 ?_
      refine z_irem (by omega) (by omega) dX9_renamed_21 ?_
      refine z_top (y := 1) (by decide) ?_
      refine z_iast (0) (by decide) rfl (by decide) (by decide) rfl (by omega) (by first | omega | exact hR.1 _ _ (by decide) | exact zrng_toInt _) dX9_renamed_22 ?_
      refine z_withR (fun hR => ?_)
      refine zaload_6_0 dX9_renamed_23 ?_
      refine zg_Model_45 rfl dX9_renamed_24 ?_
      refine z_iconst dX9_renamed_27 ?_
      refine zaload_6_0 dX9_renamed_28 ?_
      refine zg_Model_124 rfl dX9_renamed_29 ?_
      refine z_top hs ?_
      refine z_iconst dX9_renamed_32 ?_
      refine z_icmp_ne (tgt := 68) (by first | omega | exact hR.1 _ _ (by decide) | exact zrng_toInt _) (by first | omega | exact hR.1 _ _ (by decide) | exact zrng_toInt _) dX9_renamed_33 (by decide) (fun h33 => ?_) (fun h33 => ?_)
      · refine z_iconst dX9_renamed_68 ?_
        refine ziload_6_1 dX9_renamed_69 ?_
        refine z_iconst dX9_renamed_70 ?_
        refine z_irem (by omega) (by omega) dX9_renamed_71 ?_
        refine z_isub dX9_renamed_72 ?_
        refine z_top (y := 0) (by decide) ?_
        refine z_iast (1) (by decide) rfl (by decide) (by decide) rfl (by omega) (by first | omega | exact hR.1 _ _ (by decide) | exact zrng_toInt _) dX9_renamed_73 ?_
        refine z_withR (fun hR => ?_)
        refine zaload_6_0 dX9_renamed_74 ?_
        refine zg_Model_45 rfl dX9_renamed_75 ?_
        refine z_iconst dX9_renamed_78 ?_
        refine z_iconst dX9_renamed_79 ?_
        refine zaload_6_0 dX9_renamed_80 ?_
        refine zg_Model_45 rfl dX9_renamed_81 ?_
        refine z_iconst dX9_renamed_84 ?_
        refine z_iald (0) rfl (by decide) (by decide) rfl (by omega) dX9_renamed_85 ?_
        refine z_top ((zmu_ne _ _ _ _ (by decide)).trans (zmu_same _ _ _ _)) ?_
        refine z_isub dX9_renamed_86 ?_
        refine zaload_6_0 dX9_renamed_87 ?_
        refine zg_Model_45 rfl dX9_renamed_88 ?_
        refine z_iconst dX9_renamed_91 ?_
        refine z_iald (1) rfl (by decide) (by decide) rfl (by omega) dX9_renamed_92 ?_
        refine z_top (zmu_same _ _ _ _) ?_
        refine z_isub dX9_renamed_93 ?_
        refine z_top (y := 2) (by decide) ?_
        refine z_iast (2) (by decide) rfl (by decide) (by decide) rfl (by omega) (by first | omega | exact hR.1 _ _ (by decide) | exact zrng_toInt _) dX9_renamed_94 ?_
        refine z_withR (fun hR => ?_)
        refine z_iconst dX9_renamed_95 ?_
        refine zistore_6_2 dX9_renamed_96 ?_
        refine z_iconst dX9_renamed_97 ?_
        refine zistore_6_3 dX9_renamed_98 ?_
        refine loop (2 * 2) 0 _ _ _ (by decide) (((zfr.rf.mu (by decide)).mu (by decide)).mu (by decide)) (fun w hw => ?_)
        rcases (show w = 0 ∨ w = 1 ∨ w = 2 by omega) with rfl | rfl | rfl
        · rw [zmu_ne _ _ _ _ (by decide), zmu_ne _ _ _ _ (by decide), zmu_same]; rfl
        · rw [zmu_ne _ _ _ _ (by decide), zmu_same]; rfl
        · rw [zmu_same]; rfl
      · exact absurd h33 (by decide)
    · exact absurd h10 (by decide)
  · have hs := hs
    refine zaload_6_0 dX9_renamed_0 ?_
    refine zg_Model_45 rfl dX9_renamed_1 ?_
    refine z_iconst dX9_renamed_4 ?_
    refine zaload_6_0 dX9_renamed_5 ?_
    refine zg_Model_124 rfl dX9_renamed_6 ?_
    refine z_top hs ?_
    refine z_iconst dX9_renamed_9 ?_
    refine z_icmp_ne (tgt := 19) (by first | omega | exact hR.1 _ _ (by decide) | exact zrng_toInt _) (by first | omega | exact hR.1 _ _ (by decide) | exact zrng_toInt _) dX9_renamed_10 (by decide) (fun h10 => ?_) (fun h10 => ?_)
    · exact absurd rfl h10
    · refine ziload_6_1 dX9_renamed_13 ?_
      refine z_iconst dX9_renamed_14 ?_
      refine z_idiv (by omega) (by omega) dX9_renamed_15 ?_
      refine z_top (y := 0) (by decide) ?_
      refine z_goto (tgt := 22) dX9_renamed_16 (by decide) ?_
      refine z_iast (0) (by decide) rfl (by decide) (by decide) rfl (by omega) (by first | omega | exact hR.1 _ _ (by decide) | exact zrng_toInt _) dX9_renamed_22 ?_
      refine z_withR (fun hR => ?_)
      refine zaload_6_0 dX9_renamed_23 ?_
      refine zg_Model_45 rfl dX9_renamed_24 ?_
      refine z_iconst dX9_renamed_27 ?_
      refine zaload_6_0 dX9_renamed_28 ?_
      refine zg_Model_124 rfl dX9_renamed_29 ?_
      refine z_top hs ?_
      refine z_iconst dX9_renamed_32 ?_
      refine z_icmp_ne (tgt := 68) (by first | omega | exact hR.1 _ _ (by decide) | exact zrng_toInt _) (by first | omega | exact hR.1 _ _ (by decide) | exact zrng_toInt _) dX9_renamed_33 (by decide) (fun h33 => ?_) (fun h33 => ?_)
      · exact absurd rfl h33
      · refine ziload_6_1 dX9_renamed_36 ?_
        refine z_iconst dX9_renamed_37 ?_
        refine z_irem (by omega) (by omega) dX9_renamed_38 ?_
        refine z_top (y := 0) (by decide) ?_
        refine z_if_ne (tgt := 55) (by first | omega | exact hR.1 _ _ (by decide) | exact zrng_toInt _) dX9_renamed_39 (by decide) (fun h39 => ?_) (fun h39 => ?_)
        · exact absurd rfl h39
        · refine zaload_6_0 dX9_renamed_42 ?_
          refine zg_Model_45 rfl dX9_renamed_43 ?_
          refine z_iconst dX9_renamed_46 ?_
          refine z_iald (0) rfl (by decide) (by decide) rfl (by omega) dX9_renamed_47 ?_
          refine z_top (zmu_same _ _ _ _) ?_
          refine z_iconst dX9_renamed_48 ?_
          refine z_iadd dX9_renamed_49 ?_
          refine z_iconst dX9_renamed_50 ?_
          refine z_irem (by omega) (by omega) dX9_renamed_51 ?_
          refine z_top (y := 1) (by decide) ?_
          refine z_goto (tgt := 73) dX9_renamed_52 (by decide) ?_
          refine z_iast (1) (by decide) rfl (by decide) (by decide) rfl (by omega) (by first | omega | exact hR.1 _ _ (by decide) | exact zrng_toInt _) dX9_renamed_73 ?_
          refine z_withR (fun hR => ?_)
          refine zaload_6_0 dX9_renamed_74 ?_
          refine zg_Model_45 rfl dX9_renamed_75 ?_
          refine z_iconst dX9_renamed_78 ?_
          refine z_iconst dX9_renamed_79 ?_
          refine zaload_6_0 dX9_renamed_80 ?_
          refine zg_Model_45 rfl dX9_renamed_81 ?_
          refine z_iconst dX9_renamed_84 ?_
          refine z_iald (0) rfl (by decide) (by decide) rfl (by omega) dX9_renamed_85 ?_
          refine z_top ((zmu_ne _ _ _ _ (by decide)).trans (zmu_same _ _ _ _)) ?_
          refine z_isub dX9_renamed_86 ?_
          refine zaload_6_0 dX9_renamed_87 ?_
          refine zg_Model_45 rfl dX9_renamed_88 ?_
          refine z_iconst dX9_renamed_91 ?_
          refine z_iald (1) rfl (by decide) (by decide) rfl (by omega) dX9_renamed_92 ?_
          refine z_top (zmu_same _ _ _ _) ?_
          refine z_isub dX9_renamed_93 ?_
          refine z_top (y := 2) (by decide) ?_
          refine z_iast (2) (by decide) rfl (by decide) (by decide) rfl (by omega) (by first | omega | exact hR.1 _ _ (by decide) | exact zrng_toInt _) dX9_renamed_94 ?_
          refine z_withR (fun hR => ?_)
          refine z_iconst dX9_renamed_95 ?_
          refine zistore_6_2 dX9_renamed_96 ?_
          refine z_iconst dX9_renamed_97 ?_
          refine zistore_6_3 dX9_renamed_98 ?_
          refine loop (3 * 3) 0 _ _ _ (by decide) (((zfr.rf.mu (by decide)).mu (by decide)).mu (by decide)) (fun w hw => ?_)
          rcases (show w = 0 ∨ w = 1 ∨ w = 2 by omega) with rfl | rfl | rfl
          · rw [zmu_ne _ _ _ _ (by decide), zmu_ne _ _ _ _ (by decide), zmu_same]; rfl
          · rw [zmu_ne _ _ _ _ (by decide), zmu_same]; rfl
          · rw [zmu_same]; rfl
  · have hs := hs
    refine zaload_6_0 dX9_renamed_0 ?_
    refine zg_Model_45 rfl dX9_renamed_1 ?_
    refine z_iconst dX9_renamed_4 ?_
    refine zaload_6_0 dX9_renamed_5 ?_
    refine zg_Model_124 rfl dX9_renamed_6 ?_
    refine z_top hs ?_
    refine z_iconst dX9_renamed_9 ?_
    refine z_icmp_ne (tgt := 19) (by first | omega | exact hR.1 _ _ (by decide) | exact zrng_toInt _) (by first | omega | exact hR.1 _ _ (by decide) | exact zrng_toInt _) dX9_renamed_10 (by decide) (fun h10 => ?_) (fun h10 => ?_)
    · exact absurd rfl h10
    · refine ziload_6_1 dX9_renamed_13 ?_
      refine z_iconst dX9_renamed_14 ?_
      refine z_idiv (by omega) (by omega) dX9_renamed_15 ?_
      refine z_top (y := 0) (by decide) ?_
      refine z_goto (tgt := 22) dX9_renamed_16 (by decide) ?_
      refine z_iast (0) (by decide) rfl (by decide) (by decide) rfl (by omega) (by first | omega | exact hR.1 _ _ (by decide) | exact zrng_toInt _) dX9_renamed_22 ?_
      refine z_withR (fun hR => ?_)
      refine zaload_6_0 dX9_renamed_23 ?_
      refine zg_Model_45 rfl dX9_renamed_24 ?_
      refine z_iconst dX9_renamed_27 ?_
      refine zaload_6_0 dX9_renamed_28 ?_
      refine zg_Model_124 rfl dX9_renamed_29 ?_
      refine z_top hs ?_
      refine z_iconst dX9_renamed_32 ?_
      refine z_icmp_ne (tgt := 68) (by first | omega | exact hR.1 _ _ (by decide) | exact zrng_toInt _) (by first | omega | exact hR.1 _ _ (by decide) | exact zrng_toInt _) dX9_renamed_33 (by decide) (fun h33 => ?_) (fun h33 => ?_)
      · exact absurd rfl h33
      · refine ziload_6_1 dX9_renamed_36 ?_
        refine z_iconst dX9_renamed_37 ?_
        refine z_irem (by omega) (by omega) dX9_renamed_38 ?_
        refine z_top (y := 1) (by decide) ?_
        refine z_if_ne (tgt := 55) (by first | omega | exact hR.1 _ _ (by decide) | exact zrng_toInt _) dX9_renamed_39 (by decide) (fun h39 => ?_) (fun h39 => ?_)
        · refine zaload_6_0 dX9_renamed_55 ?_
          refine zg_Model_45 rfl dX9_renamed_56 ?_
          refine z_iconst dX9_renamed_59 ?_
          refine z_iald (0) rfl (by decide) (by decide) rfl (by omega) dX9_renamed_60 ?_
          refine z_top (zmu_same _ _ _ _) ?_
          refine z_iconst dX9_renamed_61 ?_
          refine z_iadd dX9_renamed_62 ?_
          refine z_iconst dX9_renamed_63 ?_
          refine z_irem (by omega) (by omega) dX9_renamed_64 ?_
          refine z_top (y := 2) (by decide) ?_
          refine z_goto (tgt := 73) dX9_renamed_65 (by decide) ?_
          refine z_iast (1) (by decide) rfl (by decide) (by decide) rfl (by omega) (by first | omega | exact hR.1 _ _ (by decide) | exact zrng_toInt _) dX9_renamed_73 ?_
          refine z_withR (fun hR => ?_)
          refine zaload_6_0 dX9_renamed_74 ?_
          refine zg_Model_45 rfl dX9_renamed_75 ?_
          refine z_iconst dX9_renamed_78 ?_
          refine z_iconst dX9_renamed_79 ?_
          refine zaload_6_0 dX9_renamed_80 ?_
          refine zg_Model_45 rfl dX9_renamed_81 ?_
          refine z_iconst dX9_renamed_84 ?_
          refine z_iald (0) rfl (by decide) (by decide) rfl (by omega) dX9_renamed_85 ?_
          refine z_top ((zmu_ne _ _ _ _ (by decide)).trans (zmu_same _ _ _ _)) ?_
          refine z_isub dX9_renamed_86 ?_
          refine zaload_6_0 dX9_renamed_87 ?_
          refine zg_Model_45 rfl dX9_renamed_88 ?_
          refine z_iconst dX9_renamed_91 ?_
          refine z_iald (1) rfl (by decide) (by decide) rfl (by omega) dX9_renamed_92 ?_
          refine z_top (zmu_same _ _ _ _) ?_
          refine z_isub dX9_renamed_93 ?_
          refine z_top (y := 1) (by decide) ?_
          refine z_iast (2) (by decide) rfl (by decide) (by decide) rfl (by omega) (by first | omega | exact hR.1 _ _ (by decide) | exact zrng_toInt _) dX9_renamed_94 ?_
          refine z_withR (fun hR => ?_)
          refine z_iconst dX9_renamed_95 ?_
          refine zistore_6_2 dX9_renamed_96 ?_
          refine z_iconst dX9_renamed_97 ?_
          refine zistore_6_3 dX9_renamed_98 ?_
          refine loop (3 * 3) 0 _ _ _ (by decide) (((zfr.rf.mu (by decide)).mu (by decide)).mu (by decide)) (fun w hw => ?_)
          rcases (show w = 0 ∨ w = 1 ∨ w = 2 by omega) with rfl | rfl | rfl
          · rw [zmu_ne _ _ _ _ (by decide), zmu_ne _ _ _ _ (by decide), zmu_same]; rfl
          · rw [zmu_ne _ _ _ _ (by decide), zmu_same]; rfl
          · rw [zmu_same]; rfl
        · exact absurd h39 (by decide)
  · have hs := hs
    refine zaload_6_0 dX9_renamed_0 ?_
    refine zg_Model_45 rfl dX9_renamed_1 ?_
    refine z_iconst dX9_renamed_4 ?_
    refine zaload_6_0 dX9_renamed_5 ?_
    refine zg_Model_124 rfl dX9_renamed_6 ?_
    refine z_top hs ?_
    refine z_iconst dX9_renamed_9 ?_
    refine z_icmp_ne (tgt := 19) (by first | omega | exact hR.1 _ _ (by decide) | exact zrng_toInt _) (by first | omega | exact hR.1 _ _ (by decide) | exact zrng_toInt _) dX9_renamed_10 (by decide) (fun h10 => ?_) (fun h10 => ?_)
    · exact absurd rfl h10
    · refine ziload_6_1 dX9_renamed_13 ?_
      refine z_iconst dX9_renamed_14 ?_
      refine z_idiv (by omega) (by omega) dX9_renamed_15 ?_
      refine z_top (y := 1) (by decide) ?_
      refine z_goto (tgt := 22) dX9_renamed_16 (by decide) ?_
      refine z_iast (0) (by decide) rfl (by decide) (by decide) rfl (by omega) (by first | omega | exact hR.1 _ _ (by decide) | exact zrng_toInt _) dX9_renamed_22 ?_
      refine z_withR (fun hR => ?_)
      refine zaload_6_0 dX9_renamed_23 ?_
      refine zg_Model_45 rfl dX9_renamed_24 ?_
      refine z_iconst dX9_renamed_27 ?_
      refine zaload_6_0 dX9_renamed_28 ?_
      refine zg_Model_124 rfl dX9_renamed_29 ?_
      refine z_top hs ?_
      refine z_iconst dX9_renamed_32 ?_
      refine z_icmp_ne (tgt := 68) (by first | omega | exact hR.1 _ _ (by decide) | exact zrng_toInt _) (by first | omega | exact hR.1 _ _ (by decide) | exact zrng_toInt _) dX9_renamed_33 (by decide) (fun h33 => ?_) (fun h33 => ?_)
      · exact absurd rfl h33
      · refine ziload_6_1 dX9_renamed_36 ?_
        refine z_iconst dX9_renamed_37 ?_
        refine z_irem (by omega) (by omega) dX9_renamed_38 ?_
        refine z_top (y := 0) (by decide) ?_
        refine z_if_ne (tgt := 55) (by first | omega | exact hR.1 _ _ (by decide) | exact zrng_toInt _) dX9_renamed_39 (by decide) (fun h39 => ?_) (fun h39 => ?_)
        · exact absurd rfl h39
        · refine zaload_6_0 dX9_renamed_42 ?_
          refine zg_Model_45 rfl dX9_renamed_43 ?_
          refine z_iconst dX9_renamed_46 ?_
          refine z_iald (0) rfl (by decide) (by decide) rfl (by omega) dX9_renamed_47 ?_
          refine z_top (zmu_same _ _ _ _) ?_
          refine z_iconst dX9_renamed_48 ?_
          refine z_iadd dX9_renamed_49 ?_
          refine z_iconst dX9_renamed_50 ?_
          refine z_irem (by omega) (by omega) dX9_renamed_51 ?_
          refine z_top (y := 2) (by decide) ?_
          refine z_goto (tgt := 73) dX9_renamed_52 (by decide) ?_
          refine z_iast (1) (by decide) rfl (by decide) (by decide) rfl (by omega) (by first | omega | exact hR.1 _ _ (by decide) | exact zrng_toInt _) dX9_renamed_73 ?_
          refine z_withR (fun hR => ?_)
          refine zaload_6_0 dX9_renamed_74 ?_
          refine zg_Model_45 rfl dX9_renamed_75 ?_
          refine z_iconst dX9_renamed_78 ?_
          refine z_iconst dX9_renamed_79 ?_
          refine zaload_6_0 dX9_renamed_80 ?_
          refine zg_Model_45 rfl dX9_renamed_81 ?_
          refine z_iconst dX9_renamed_84 ?_
          refine z_iald (0) rfl (by decide) (by decide) rfl (by omega) dX9_renamed_85 ?_
          refine z_top ((zmu_ne _ _ _ _ (by decide)).trans (zmu_same _ _ _ _)) ?_
          refine z_isub dX9_renamed_86 ?_
          refine zaload_6_0 dX9_renamed_87 ?_
          refine zg_Model_45 rfl dX9_renamed_88 ?_
          refine z_iconst dX9_renamed_91 ?_
          refine z_iald (1) rfl (by decide) (by decide) rfl (by omega) dX9_renamed_92 ?_
          refine z_top (zmu_same _ _ _ _) ?_
          refine z_isub dX9_renamed_93 ?_
          refine z_top (y := 0) (by decide) ?_
          refine z_iast (2) (by decide) rfl (by decide) (by decide) rfl (by omega) (by first | omega | exact hR.1 _ _ (by decide) | exact zrng_toInt _) dX9_renamed_94 ?_
          refine z_withR (fun hR => ?_)
          refine z_iconst dX9_renamed_95 ?_
          refine zistore_6_2 dX9_renamed_96 ?_
          refine z_iconst dX9_renamed_97 ?_
          refine zistore_6_3 dX9_renamed_98 ?_
          refine loop (3 * 3) 0 _ _ _ (by decide) (((zfr.rf.mu (by decide)).mu (by decide)).mu (by decide)) (fun w hw => ?_)
          rcases (show w = 0 ∨ w = 1 ∨ w = 2 by omega) with rfl | rfl | rfl
          · rw [zmu_ne _ _ _ _ (by decide), zmu_ne _ _ _ _ (by decide), zmu_same]; rfl
          · rw [zmu_ne _ _ _ _ (by decide), zmu_same]; rfl
          · rw [zmu_same]; rfl
  · have hs := hs
    refine zaload_6_0 dX9_renamed_0 ?_
    refine zg_Model_45 rfl dX9_renamed_1 ?_
    refine z_iconst dX9_renamed_4 ?_
    refine zaload_6_0 dX9_renamed_5 ?_
    refine zg_Model_124 rfl dX9_renamed_6 ?_
    refine z_top hs ?_
    refine z_iconst dX9_renamed_9 ?_
    refine z_icmp_ne (tgt := 19) (by first | omega | exact hR.1 _ _ (by decide) | exact zrng_toInt _) (by first | omega | exact hR.1 _ _ (by decide) | exact zrng_toInt _) dX9_renamed_10 (by decide) (fun h10 => ?_) (fun h10 => ?_)
    · exact absurd rfl h10
    · refine ziload_6_1 dX9_renamed_13 ?_
      refine z_iconst dX9_renamed_14 ?_
      refine z_idiv (by omega) (by omega) dX9_renamed_15 ?_
      refine z_top (y := 1) (by decide) ?_
      refine z_goto (tgt := 22) dX9_renamed_16 (by decide) ?_
      refine z_iast (0) (by decide) rfl (by decide) (by decide) rfl (by omega) (by first | omega | exact hR.1 _ _ (by decide) | exact zrng_toInt _) dX9_renamed_22 ?_
      refine z_withR (fun hR => ?_)
      refine zaload_6_0 dX9_renamed_23 ?_
      refine zg_Model_45 rfl dX9_renamed_24 ?_
      refine z_iconst dX9_renamed_27 ?_
      refine zaload_6_0 dX9_renamed_28 ?_
      refine zg_Model_124 rfl dX9_renamed_29 ?_
      refine z_top hs ?_
      refine z_iconst dX9_renamed_32 ?_
      refine z_icmp_ne (tgt := 68) (by first | omega | exact hR.1 _ _ (by decide) | exact zrng_toInt _) (by first | omega | exact hR.1 _ _ (by decide) | exact zrng_toInt _) dX9_renamed_33 (by decide) (fun h33 => ?_) (fun h33 => ?_)
      · exact absurd rfl h33
      · refine ziload_6_1 dX9_renamed_36 ?_
        refine z_iconst dX9_renamed_37 ?_
        refine z_irem (by omega) (by omega) dX9_renamed_38 ?_
        refine z_top (y := 1) (by decide) ?_
        refine z_if_ne (tgt := 55) (by first | omega | exact hR.1 _ _ (by decide) | exact zrng_toInt _) dX9_renamed_39 (by decide) (fun h39 => ?_) (fun h39 => ?_)
        · refine zaload_6_0 dX9_renamed_55 ?_
          refine zg_Model_45 rfl dX9_renamed_56 ?_
          refine z_iconst dX9_renamed_59 ?_
          refine z_iald (0) rfl (by decide) (by decide) rfl (by omega) dX9_renamed_60 ?_
          refine z_top (zmu_same _ _ _ _) ?_
          refine z_iconst dX9_renamed_61 ?_
          refine z_iadd dX9_renamed_62 ?_
          refine z_iconst dX9_renamed_63 ?_
          refine z_irem (by omega) (by omega) dX9_renamed_64 ?_
          refine z_top (y := 0) (by decide) ?_
          refine z_goto (tgt := 73) dX9_renamed_65 (by decide) ?_
          refine z_iast (1) (by decide) rfl (by decide) (by decide) rfl (by omega) (by first | omega | exact hR.1 _ _ (by decide) | exact zrng_toInt _) dX9_renamed_73 ?_
          refine z_withR (fun hR => ?_)
          refine zaload_6_0 dX9_renamed_74 ?_
          refine zg_Model_45 rfl dX9_renamed_75 ?_
          refine z_iconst dX9_renamed_78 ?_
          refine z_iconst dX9_renamed_79 ?_
          refine zaload_6_0 dX9_renamed_80 ?_
          refine zg_Model_45 rfl dX9_renamed_81 ?_
          refine z_iconst dX9_renamed_84 ?_
          refine z_iald (0) rfl (by decide) (by decide) rfl (by omega) dX9_renamed_85 ?_
          refine z_top ((zmu_ne _ _ _ _ (by decide)).trans (zmu_same _ _ _ _)) ?_
          refine z_isub dX9_renamed_86 ?_
          refine zaload_6_0 dX9_renamed_87 ?_
          refine zg_Model_45 rfl dX9_renamed_88 ?_
          refine z_iconst dX9_renamed_91 ?_
          refine z_iald (1) rfl (by decide) (by decide) rfl (by omega) dX9_renamed_92 ?_
          refine z_top (zmu_same _ _ _ _) ?_
          refine z_isub dX9_renamed_93 ?_
          refine z_top (y := 2) (by decide) ?_
          refine z_iast (2) (by decide) rfl (by decide) (by decide) rfl (by omega) (by first | omega | exact hR.1 _ _ (by decide) | exact zrng_toInt _) dX9_renamed_94 ?_
          refine z_withR (fun hR => ?_)
          refine z_iconst dX9_renamed_95 ?_
          refine zistore_6_2 dX9_renamed_96 ?_
          refine z_iconst dX9_renamed_97 ?_
          refine zistore_6_3 dX9_renamed_98 ?_
          refine loop (3 * 3) 0 _ _ _ (by decide) (((zfr.rf.mu (by decide)).mu (by decide)).mu (by decide)) (fun w hw => ?_)
          rcases (show w = 0 ∨ w = 1 ∨ w = 2 by omega) with rfl | rfl | rfl
          · rw [zmu_ne _ _ _ _ (by decide), zmu_ne _ _ _ _ (by decide), zmu_same]; rfl
          · rw [zmu_ne _ _ _ _ (by decide), zmu_same]; rfl
          · rw [zmu_same]; rfl
        · exact absurd h39 (by decide)
  · have hs := hs
    refine zaload_6_0 dX9_renamed_0 ?_
    refine zg_Model_45 rfl dX9_renamed_1 ?_
    refine z_iconst dX9_renamed_4 ?_
    refine zaload_6_0 dX9_renamed_5 ?_
    refine zg_Model_124 rfl dX9_renamed_6 ?_
    refine z_top hs ?_
    refine z_iconst dX9_renamed_9 ?_
    refine z_icmp_ne (tgt := 19) (by first | omega | exact hR.1 _ _ (by decide) | exact zrng_toInt _) (by first | omega | exact hR.1 _ _ (by decide) | exact zrng_toInt _) dX9_renamed_10 (by decide) (fun h10 => ?_) (fun h10 => ?_)
    · exact absurd rfl h10
    · refine ziload_6_1 dX9_renamed_13 ?_
      refine z_iconst dX9_renamed_14 ?_
      refine z_idiv (by omega) (by omega) dX9_renamed_15 ?_
      refine z_top (y := 2) (by decide) ?_
      refine z_goto (tgt := 22) dX9_renamed_16 (by decide) ?_
      refine z_iast (0) (by decide) rfl (by decide) (by decide) rfl (by omega) (by first | omega | exact hR.1 _ _ (by decide) | exact zrng_toInt _) dX9_renamed_22 ?_
      refine z_withR (fun hR => ?_)
      refine zaload_6_0 dX9_renamed_23 ?_
      refine zg_Model_45 rfl dX9_renamed_24 ?_
      refine z_iconst dX9_renamed_27 ?_
      refine zaload_6_0 dX9_renamed_28 ?_
      refine zg_Model_124 rfl dX9_renamed_29 ?_
      refine z_top hs ?_
      refine z_iconst dX9_renamed_32 ?_
      refine z_icmp_ne (tgt := 68) (by first | omega | exact hR.1 _ _ (by decide) | exact zrng_toInt _) (by first | omega | exact hR.1 _ _ (by decide) | exact zrng_toInt _) dX9_renamed_33 (by decide) (fun h33 => ?_) (fun h33 => ?_)
      · exact absurd rfl h33
      · refine ziload_6_1 dX9_renamed_36 ?_
        refine z_iconst dX9_renamed_37 ?_
        refine z_irem (by omega) (by omega) dX9_renamed_38 ?_
        refine z_top (y := 0) (by decide) ?_
        refine z_if_ne (tgt := 55) (by first | omega | exact hR.1 _ _ (by decide) | exact zrng_toInt _) dX9_renamed_39 (by decide) (fun h39 => ?_) (fun h39 => ?_)
        · exact absurd rfl h39
        · refine zaload_6_0 dX9_renamed_42 ?_
          refine zg_Model_45 rfl dX9_renamed_43 ?_
          refine z_iconst dX9_renamed_46 ?_
          refine z_iald (0) rfl (by decide) (by decide) rfl (by omega) dX9_renamed_47 ?_
          refine z_top (zmu_same _ _ _ _) ?_
          refine z_iconst dX9_renamed_48 ?_
          refine z_iadd dX9_renamed_49 ?_
          refine z_iconst dX9_renamed_50 ?_
          refine z_irem (by omega) (by omega) dX9_renamed_51 ?_
          refine z_top (y := 0) (by decide) ?_
          refine z_goto (tgt := 73) dX9_renamed_52 (by decide) ?_
          refine z_iast (1) (by decide) rfl (by decide) (by decide) rfl (by omega) (by first | omega | exact hR.1 _ _ (by decide) | exact zrng_toInt _) dX9_renamed_73 ?_
          refine z_withR (fun hR => ?_)
          refine zaload_6_0 dX9_renamed_74 ?_
          refine zg_Model_45 rfl dX9_renamed_75 ?_
          refine z_iconst dX9_renamed_78 ?_
          refine z_iconst dX9_renamed_79 ?_
          refine zaload_6_0 dX9_renamed_80 ?_
          refine zg_Model_45 rfl dX9_renamed_81 ?_
          refine z_iconst dX9_renamed_84 ?_
          refine z_iald (0) rfl (by decide) (by decide) rfl (by omega) dX9_renamed_85 ?_
          refine z_top ((zmu_ne _ _ _ _ (by decide)).trans (zmu_same _ _ _ _)) ?_
          refine z_isub dX9_renamed_86 ?_
          refine zaload_6_0 dX9_renamed_87 ?_
          refine zg_Model_45 rfl dX9_renamed_88 ?_
          refine z_iconst dX9_renamed_91 ?_
          refine z_iald (1) rfl (by decide) (by decide) rfl (by omega) dX9_renamed_92 ?_
          refine z_top (zmu_same _ _ _ _) ?_
          refine z_isub dX9_renamed_93 ?_
          refine z_top (y := 1) (by decide) ?_
          refine z_iast (2) (by decide) rfl (by decide) (by decide) rfl (by omega) (by first | omega | exact hR.1 _ _ (by decide) | exact zrng_toInt _) dX9_renamed_94 ?_
          refine z_withR (fun hR => ?_)
          refine z_iconst dX9_renamed_95 ?_
          refine zistore_6_2 dX9_renamed_96 ?_
          refine z_iconst dX9_renamed_97 ?_
          refine zistore_6_3 dX9_renamed_98 ?_
          refine loop (3 * 3) 0 _ _ _ (by decide) (((zfr.rf.mu (by decide)).mu (by decide)).mu (by decide)) (fun w hw => ?_)
          rcases (show w = 0 ∨ w = 1 ∨ w = 2 by omega) with rfl | rfl | rfl
          · rw [zmu_ne _ _ _ _ (by decide), zmu_ne _ _ _ _ (by decide), zmu_same]; rfl
          · rw [zmu_ne _ _ _ _ (by decide), zmu_same]; rfl
          · rw [zmu_same]; rfl
  · have hs := hs
    refine zaload_6_0 dX9_renamed_0 ?_
    refine zg_Model_45 rfl dX9_renamed_1 ?_
    refine z_iconst dX9_renamed_4 ?_
    refine zaload_6_0 dX9_renamed_5 ?_
    refine zg_Model_124 rfl dX9_renamed_6 ?_
    refine z_top hs ?_
    refine z_iconst dX9_renamed_9 ?_
    refine z_icmp_ne (tgt := 19) (by first | omega | exact hR.1 _ _ (by decide) | exact zrng_toInt _) (by first | omega | exact hR.1 _ _ (by decide) | exact zrng_toInt _) dX9_renamed_10 (by decide) (fun h10 => ?_) (fun h10 => ?_)
    · exact absurd rfl h10
    · refine ziload_6_1 dX9_renamed_13 ?_
      refine z_iconst dX9_renamed_14 ?_
      refine z_idiv (by omega) (by omega) dX9_renamed_15 ?_
      refine z_top (y := 2) (by decide) ?_
      refine z_goto (tgt := 22) dX9_renamed_16 (by decide) ?_
      refine z_iast (0) (by decide) rfl (by decide) (by decide) rfl (by omega) (by first | omega | exact hR.1 _ _ (by decide) | exact zrng_toInt _) dX9_renamed_22 ?_
      refine z_withR (fun hR => ?_)
      refine zaload_6_0 dX9_renamed_23 ?_
      refine zg_Model_45 rfl dX9_renamed_24 ?_
      refine z_iconst dX9_renamed_27 ?_
      refine zaload_6_0 dX9_renamed_28 ?_
      refine zg_Model_124 rfl dX9_renamed_29 ?_
      refine z_top hs ?_
      refine z_iconst dX9_renamed_32 ?_
      refine z_icmp_ne (tgt := 68) (by first | omega | exact hR.1 _ _ (by decide) | exact zrng_toInt _) (by first | omega | exact hR.1 _ _ (by decide) | exact zrng_toInt _) dX9_renamed_33 (by decide) (fun h33 => ?_) (fun h33 => ?_)
      · exact absurd rfl h33
      · refine ziload_6_1 dX9_renamed_36 ?_
        refine z_iconst dX9_renamed_37 ?_
        refine z_irem (by omega) (by omega) dX9_renamed_38 ?_
        refine z_top (y := 1) (by decide) ?_
        refine z_if_ne (tgt := 55) (by first | omega | exact hR.1 _ _ (by decide) | exact zrng_toInt _) dX9_renamed_39 (by decide) (fun h39 => ?_) (fun h39 => ?_)
        · refine zaload_6_0 dX9_renamed_55 ?_
          refine zg_Model_45 rfl dX9_renamed_56 ?_
          refine z_iconst dX9_renamed_59 ?_
          refine z_iald (0) rfl (by decide) (by decide) rfl (by omega) dX9_renamed_60 ?_
          refine z_top (zmu_same _ _ _ _) ?_
          refine z_iconst dX9_renamed_61 ?_
          refine z_iadd dX9_renamed_62 ?_
          refine z_iconst dX9_renamed_63 ?_
          refine z_irem (by omega) (by omega) dX9_renamed_64 ?_
          refine z_top (y := 1) (by decide) ?_
          refine z_goto (tgt := 73) dX9_renamed_65 (by decide) ?_
          refine z_iast (1) (by decide) rfl (by decide) (by decide) rfl (by omega) (by first | omega | exact hR.1 _ _ (by decide) | exact zrng_toInt _) dX9_renamed_73 ?_
          refine z_withR (fun hR => ?_)
          refine zaload_6_0 dX9_renamed_74 ?_
          refine zg_Model_45 rfl dX9_renamed_75 ?_
          refine z_iconst dX9_renamed_78 ?_
          refine z_iconst dX9_renamed_79 ?_
          refine zaload_6_0 dX9_renamed_80 ?_
          refine zg_Model_45 rfl dX9_renamed_81 ?_
          refine z_iconst dX9_renamed_84 ?_
          refine z_iald (0) rfl (by decide) (by decide) rfl (by omega) dX9_renamed_85 ?_
          refine z_top ((zmu_ne _ _ _ _ (by decide)).trans (zmu_same _ _ _ _)) ?_
          refine z_isub dX9_renamed_86 ?_
          refine zaload_6_0 dX9_renamed_87 ?_
          refine zg_Model_45 rfl dX9_renamed_88 ?_
          refine z_iconst dX9_renamed_91 ?_
          refine z_iald (1) rfl (by decide) (by decide) rfl (by omega) dX9_renamed_92 ?_
          refine z_top (zmu_same _ _ _ _) ?_
          refine z_isub dX9_renamed_93 ?_
          refine z_top (y := 0) (by decide) ?_
          refine z_iast (2) (by decide) rfl (by decide) (by decide) rfl (by omega) (by first | omega | exact hR.1 _ _ (by decide) | exact zrng_toInt _) dX9_renamed_94 ?_
          refine z_withR (fun hR => ?_)
          refine z_iconst dX9_renamed_95 ?_
          refine zistore_6_2 dX9_renamed_96 ?_
          refine z_iconst dX9_renamed_97 ?_
          refine zistore_6_3 dX9_renamed_98 ?_
          refine loop (3 * 3) 0 _ _ _ (by decide) (((zfr.rf.mu (by decide)).mu (by decide)).mu (by decide)) (fun w hw => ?_)
          rcases (show w = 0 ∨ w = 1 ∨ w = 2 by omega) with rfl | rfl | rfl
          · rw [zmu_ne _ _ _ _ (by decide), zmu_ne _ _ _ _ (by decide), zmu_same]; rfl
          · rw [zmu_ne _ _ _ _ (by decide), zmu_same]; rfl
          · rw [zmu_same]; rfl
        · exact absurd h39 (by decide)
theorem sp_Model_leastName (M : zMem) (n k : Nat) (hn : okn n) (hk : k < cN n) (ht : tbR M n k) : zSp zd_Model_leastName 2 [zr 9] M (fun q M' => zfr [45] M M' ∧ q = lst n k) := by
  refine zSp_in 3 [some (zr 9), none, none, none] rfl rfl (by decide +kernel) rfl ?_
  refine z_withR (fun hR => ?_)
  have hs : M 9 8 = n := ht.1
  have hn3 := hn.le
  obtain ⟨post, hpost⟩ : ∃ post : Int → zMem → Prop, post = (fun (q : Int) M' => zfr [45] M M' ∧ q = lst n k) := ⟨_, rfl⟩
  rw [← hpost]
  have rl : ∀ c, c < RN n → rho n (cr n c) k < 19683 + 1 := fun c hc => by
    have h1 := rho_lt (k := k) hn ((cr_ok hn).1 c hc)
    have h2 : n ^ (n * n) ≤ 19683 := by rcases hn with rfl | rfl | rfl <;> decide
    omega
  have hRN := RN_le6 hn
  have loop : (n = 2 ∨ n = 3) → ∀ (d c v : Nat) (M1 : zMem) (l3 : Option zAV), c + d = RN n → v ≤ 100000 → zfr [45] M M1 → (∀ c', c' < c → v ≤ rho n (cr n c') k) → (v = 100000 ∨ ∃ c', c' < RN n ∧ v = rho n (cr n c') k) → zV zd_Model_leastName 2 15 [some (zr 9), some (zi v), some (zi c), l3] [] M1 post := by
    intro hn2 d
    have hRv : RN n = if n = 2 then 2 else 6 := by rcases hn2 with rfl | rfl <;> rfl
    induction d with
    | zero =>
      intro c v M1 l3 hc hv hf h1 h2
      have hs : M1 9 8 = n := by rw [hf 9 (by decide)]; exact ht.1
      have fin : (v : Int) = lst n k := by
        obtain ⟨r, hr, e⟩ := lst_is (k := k) hn
        obtain ⟨c1, hc1, e1⟩ := (cr_ok hn).2 r hr
        have a1 := h1 c1 (by omega)
        rw [e1, ← e] at a1
        rcases h2 with h2 | ⟨c2, hc2, e2⟩
        · have b1 := h1 0 (by omega)
          have b2 := rl 0 (by omega)
          omega
        · have b1 := lst_le (n := n) (k := k) ((cr_ok hn).1 c2 hc2)
          omega
      refine z_withR (fun hR => ?_)
      refine ziload_4_2 dX9_leastName_15 ?_
      refine zaload_4_0 dX9_leastName_16 ?_
      refine zg_Model_124 rfl dX9_leastName_17 ?_
      refine z_top hs ?_
      refine z_iconst dX9_leastName_20 ?_
      refine z_icmp_ne (tgt := 28) (by first | omega | exact hR.1 _ _ (by decide) | exact zrng_toInt _) (by first | omega | exact hR.1 _ _ (by decide) | exact zrng_toInt _) dX9_leastName_21 (by decide) (fun h21 => ?_) (fun h21 => ?_)
      · rw [if_neg (by omega)] at hRv
        refine z_bipush dX9_leastName_28 (by decide) ?_
        refine z_icmp_ge (tgt := 56) (by first | omega | exact hR.1 _ _ (by decide) | exact zrng_toInt _) (by first | omega | exact hR.1 _ _ (by decide) | exact zrng_toInt _) dX9_leastName_30 (by decide) (fun h30 => ?_) (fun h30 => ?_)
        · refine ziload_4_1 dX9_leastName_56 ?_
          refine z_iret rfl ?_ dX9_leastName_57
          rw [hpost]
          exact ⟨hf, fin⟩
        · omega
      · rw [if_pos (by omega)] at hRv
        refine z_iconst dX9_leastName_24 ?_
        refine z_goto (tgt := 30) dX9_leastName_25 (by decide) ?_
        refine z_icmp_ge (tgt := 56) (by first | omega | exact hR.1 _ _ (by decide) | exact zrng_toInt _) (by first | omega | exact hR.1 _ _ (by decide) | exact zrng_toInt _) dX9_leastName_30 (by decide) (fun h30 => ?_) (fun h30 => ?_)
        · refine ziload_4_1 dX9_leastName_56 ?_
          refine z_iret rfl ?_ dX9_leastName_57
          rw [hpost]
          exact ⟨hf, fin⟩
        · omega
    | succ d ih =>
      intro c v M1 l3 hc hv hf h1 h2
      have hs : M1 9 8 = n := by rw [hf 9 (by decide)]; exact ht.1
      have hrl := rl c (by omega)
      refine z_withR (fun hR => ?_)
      refine ziload_4_2 dX9_leastName_15 ?_
      refine zaload_4_0 dX9_leastName_16 ?_
      refine zg_Model_124 rfl dX9_leastName_17 ?_
      refine z_top hs ?_
      refine z_iconst dX9_leastName_20 ?_
      refine z_icmp_ne (tgt := 28) (by first | omega | exact hR.1 _ _ (by decide) | exact zrng_toInt _) (by first | omega | exact hR.1 _ _ (by decide) | exact zrng_toInt _) dX9_leastName_21 (by decide) (fun h21 => ?_) (fun h21 => ?_)
      · rw [if_neg (by omega)] at hRv
        refine z_bipush dX9_leastName_28 (by decide) ?_
        refine z_icmp_ge (tgt := 56) (by first | omega | exact hR.1 _ _ (by decide) | exact zrng_toInt _) (by first | omega | exact hR.1 _ _ (by decide) | exact zrng_toInt _) dX9_leastName_30 (by decide) (fun h30 => ?_) (fun h30 => ?_)
        · omega
        · refine zaload_4_0 dX9_leastName_33 ?_
          refine ziload_4_2 dX9_leastName_34 ?_
          refine zc_Model_150 rfl dX9_leastName_35 (by decide) (Nat.le_of_ble_eq_true rfl) (sp_Model_renamed M1 n k c hn2 (by omega) (ht.fr hf (by rw [hf 9 (by decide)]) (by decide))) (fun r35 M35 hq35 => ?_)
          refine z_withR (fun hR => ?_)
          obtain ⟨f35, q35⟩ := hq35
          subst q35
          refine zistore_4_3 dX9_leastName_38 ?_
          refine ziload_4_3 dX9_leastName_39 ?_
          refine ziload_4_1 dX9_leastName_40 ?_
          refine z_icmp_ge (tgt := 48) (by first | omega | exact hR.1 _ _ (by decide) | exact zrng_toInt _) (by first | omega | exact hR.1 _ _ (by decide) | exact zrng_toInt _) dX9_leastName_41 (by decide) (fun h41 => ?_) (fun h41 => ?_)
          · have kk := ih (c + 1) v M35 (some (zi ((rho n (cr n c) k : Nat) : Int))) (by omega) hv (hf.tr f35 (by decide) (by decide)) (fun c' hc' => by
              by_cases e : c' = c
              · rw [e]; omega
              · exact h1 c' (by omega)) h2
            refine ziload_4_1 dX9_leastName_48 ?_
            refine zistore_4_1 dX9_leastName_49 ?_
            refine ziinc_4_2 dX9_leastName_50 ?_
            refine z_goto (tgt := 15) dX9_leastName_53 (by decide) ?_
            exact kk
          · have kk := ih (c + 1) (rho n (cr n c) k) M35 (some (zi ((rho n (cr n c) k : Nat) : Int))) (by omega) (by omega) (hf.tr f35 (by decide) (by decide)) (fun c' hc' => by
              by_cases e : c' = c
              · rw [e]; exact Nat.le_refl _
              · have := h1 c' (by omega); omega) (Or.inr ⟨c, by omega, rfl⟩)
            refine ziload_4_3 dX9_leastName_44 ?_
            refine z_goto (tgt := 49) dX9_leastName_45 (by decide) ?_
            refine zistore_4_1 dX9_leastName_49 ?_
            refine ziinc_4_2 dX9_leastName_50 ?_
            refine z_goto (tgt := 15) dX9_leastName_53 (by decide) ?_
            exact kk
      · rw [if_pos (by omega)] at hRv
        refine z_iconst dX9_leastName_24 ?_
        refine z_goto (tgt := 30) dX9_leastName_25 (by decide) ?_
        refine z_icmp_ge (tgt := 56) (by first | omega | exact hR.1 _ _ (by decide) | exact zrng_toInt _) (by first | omega | exact hR.1 _ _ (by decide) | exact zrng_toInt _) dX9_leastName_30 (by decide) (fun h30 => ?_) (fun h30 => ?_)
        · omega
        · refine zaload_4_0 dX9_leastName_33 ?_
          refine ziload_4_2 dX9_leastName_34 ?_
          refine zc_Model_150 rfl dX9_leastName_35 (by decide) (Nat.le_of_ble_eq_true rfl) (sp_Model_renamed M1 n k c hn2 (by omega) (ht.fr hf (by rw [hf 9 (by decide)]) (by decide))) (fun r35 M35 hq35 => ?_)
          refine z_withR (fun hR => ?_)
          obtain ⟨f35, q35⟩ := hq35
          subst q35
          refine zistore_4_3 dX9_leastName_38 ?_
          refine ziload_4_3 dX9_leastName_39 ?_
          refine ziload_4_1 dX9_leastName_40 ?_
          refine z_icmp_ge (tgt := 48) (by first | omega | exact hR.1 _ _ (by decide) | exact zrng_toInt _) (by first | omega | exact hR.1 _ _ (by decide) | exact zrng_toInt _) dX9_leastName_41 (by decide) (fun h41 => ?_) (fun h41 => ?_)
          · have kk := ih (c + 1) v M35 (some (zi ((rho n (cr n c) k : Nat) : Int))) (by omega) hv (hf.tr f35 (by decide) (by decide)) (fun c' hc' => by
              by_cases e : c' = c
              · rw [e]; omega
              · exact h1 c' (by omega)) h2
            refine ziload_4_1 dX9_leastName_48 ?_
            refine zistore_4_1 dX9_leastName_49 ?_
            refine ziinc_4_2 dX9_leastName_50 ?_
            refine z_goto (tgt := 15) dX9_leastName_53 (by decide) ?_
            exact kk
          · have kk := ih (c + 1) (rho n (cr n c) k) M35 (some (zi ((rho n (cr n c) k : Nat) : Int))) (by omega) (by omega) (hf.tr f35 (by decide) (by decide)) (fun c' hc' => by
              by_cases e : c' = c
              · rw [e]; exact Nat.le_refl _
              · have := h1 c' (by omega); omega) (Or.inr ⟨c, by omega, rfl⟩)
            refine ziload_4_3 dX9_leastName_44 ?_
            refine z_goto (tgt := 49) dX9_leastName_45 (by decide) ?_
            refine zistore_4_1 dX9_leastName_49 ?_
            refine ziinc_4_2 dX9_leastName_50 ?_
            refine z_goto (tgt := 15) dX9_leastName_53 (by decide) ?_
            exact kk
  refine zaload_4_0 dX9_leastName_0 ?_
  refine zg_Model_124 rfl dX9_leastName_1 ?_
  refine z_top hs ?_
  refine z_iconst dX9_leastName_4 ?_
  refine z_icmp_ne (tgt := 10) (by first | omega | exact hR.1 _ _ (by decide) | exact zrng_toInt _) (by first | omega | exact hR.1 _ _ (by decide) | exact zrng_toInt _) dX9_leastName_5 (by decide) (fun h5 => ?_) (fun h5 => ?_)
  · have hn2 : n = 2 ∨ n = 3 := by unfold okn at hn; omega
    refine zk_Model_149 rfl dX9_leastName_10 ?_
    refine zistore_4_1 dX9_leastName_12 ?_
    refine z_iconst dX9_leastName_13 ?_
    refine zistore_4_2 dX9_leastName_14 ?_
    exact loop hn2 (RN n) 0 100000 M _ (by omega) (Nat.le_refl _) zfr.rf (fun c' h => absurd h (Nat.not_lt_zero _)) (Or.inl rfl)
  · have hn1 : n = 1 := by omega
    refine z_iconst dX9_leastName_8 ?_
    refine z_iret rfl ?_ dX9_leastName_9
    rw [hpost]
    refine ⟨zfr.rf, ?_⟩
    subst hn1
    have h1 := lst_lt (n := 1) (k := k) hn
    rw [show 1 ^ (1 * 1) = 1 from rfl] at h1
    omega
