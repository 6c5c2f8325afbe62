theorem nd_or_lt {L R : Nat → Nat} {T a b : Nat} (hw : wfT L R T) (hT : T ≤ 20) (ha : a < T) (hb : b < T) : nd L R a ||| nd L R b < 1048576 := Nat.or_lt_two_pow (n := 20) (nd_lt20 hw hT ha) (nd_lt20 hw hT hb)
/-- how many things are to be set in for a letter -/
def thF (n N l : Nat) : Nat := if N.testBit l then n else 1
theorem thF_le {n N l : Nat} (hn : okn n) : thF n N l ≤ n ∧ 1 ≤ thF n N l := by
  have := hn.pos
  unfold thF; split <;> omega
theorem kp_th {L R : Nat → Nat} {T n k a b : Nat} (hw : wfT L R T) (hn : okn n) (ha : a < T) (hb : b < T) : (kp L R n k a b = true) ↔ ∀ x, x < thF n (nd L R a ||| nd L R b) 0 → ∀ y, y < thF n (nd L R a ||| nd L R b) 1 → ∀ z, z < thF n (nd L R a ||| nd L R b) 2 → ev L R n k x y z a = ev L R n k x y z b := by
  unfold kp
  rw [decide_eq_true_eq]
  have hn0 := hn.pos
  constructor
  · intro h x hx y hy z hz
    exact h x (Nat.lt_of_lt_of_le hx (thF_le hn).1) y (Nat.lt_of_lt_of_le hy (thF_le hn).1) z (Nat.lt_of_lt_of_le hz (thF_le hn).1)
  · intro h x hx y hy z hz
    have key : ∀ l v, v < n → ∃ w, w < thF n (nd L R a ||| nd L R b) l ∧ ((nd L R a).testBit l = true → v = w) ∧ ((nd L R b).testBit l = true → v = w) := by
      intro l v hv
      unfold thF
      by_cases hb : (nd L R a ||| nd L R b).testBit l = true
      · exact ⟨v, by rw [if_pos hb]; exact hv, fun _ => rfl, fun _ => rfl⟩
      · refine ⟨0, by rw [if_neg hb]; decide, fun h2 => absurd (by rw [Nat.testBit_or, h2]; rfl) hb, fun h2 => absurd (by rw [Nat.testBit_or, h2]; simp) hb⟩
    obtain ⟨x', hx', x1, x2⟩ := key 0 x hx
    obtain ⟨y', hy', y1, y2⟩ := key 1 y hy
    obtain ⟨z', hz', z1, z2⟩ := key 2 z hz
    rw [ev_indep hw ha x1 y1 z1, ev_indep hw hb x2 y2 z2]
    exact h x' hx' y' hy' z' hz'
theorem sp_Table_keepsLaw (M : zMem) (L R : Nat → Nat) (T n k a b : Nat) (hn : okn n) (ht : tbl M n k) (hT : tmC M L R T) (ha : a < T) (hb : b < T) : zSp zd_Table_keepsLaw 1 [zr 3, zr 1, zi a, zi b] M (fun v M' => zfr [16] M M' ∧ v = if kp L R n k a b then 1 else 0) := by
  refine zSp_in 6 [some (zr 3), some (zr 1), some (zi a), some (zi b), none, none, none, none, none, none] rfl rfl (by decide +kernel) rfl ?_
  refine z_withR (fun hR => ?_)
  have hn3 := hn.le
  have hn0 := hn.pos
  obtain ⟨hT1, hT3, hT20, hw, hLR, hnd⟩ := id hT
  have na := nd_lt20 hw hT20 ha
  have nb := nd_lt20 hw hT20 hb
  have hor := zOr_nat (a := nd L R a) (b := nd L R b) (by omega) (by omega)
  have hNb := nd_or_lt hw hT20 ha hb
  have hkp := kp_th (k := k) hw hn ha hb
  generalize nd L R a ||| nd L R b = N at hor hNb hkp
  obtain ⟨post, hpost⟩ : ∃ post : Int → zMem → Prop, post = (fun (v : Int) M' => zfr [16] M M' ∧ v = if kp L R n k a b then 1 else 0) := ⟨_, rfl⟩
  rw [← hpost]
  have t0 := thF_le (N := N) (l := 0) hn
  have t1 := thF_le (N := N) (l := 1) hn
  have t2 := thF_le (N := N) (l := 2) hn
  have inner : ∀ (x : Nat), x < thF n N 0 → (∀ (M2 : zMem) (g : Option zAV), zfr [16] M M2 → (∀ y, y < thF n N 1 → ∀ z, z < thF n N 2 → ev L R n k x y z a = ev L R n k x y z b) → zV zd_Table_keepsLaw 1 93 [some (zr 3), some (zr 1), some (zi a), some (zi b), some (zi N), some (zi (thF n N 0)), some (zi (thF n N 1)), some (zi (thF n N 2)), some (zi x), g] [] M2 post) →
      ∀ (m y : Nat) (M1 : zMem), y + m = thF n N 1 → zfr [16] M M1 → (∀ w, w < y → ∀ z, z < thF n N 2 → ev L R n k x w z a = ev L R n k x w z b) → zV zd_Table_keepsLaw 1 62 [some (zr 3), some (zr 1), some (zi a), some (zi b), some (zi N), some (zi (thF n N 0)), some (zi (thF n N 1)), some (zi (thF n N 2)), some (zi x), some (zi y)] [] M1 post := by
    intro x hx kk m
    induction m with
    | zero =>
      intro y M1 hy hf he
      refine z_withR (fun hR => ?_)
      refine ziload_10_9 dX6_keepsLaw_62 ?_
      refine ziload_10_6 dX6_keepsLaw_64 ?_
      refine z_icmp_ge (tgt := 93) (by first | omega | exact hR.1 _ _ (by decide) | exact zrng_toInt _) (by first | omega | exact hR.1 _ _ (by decide) | exact zrng_toInt _) dX6_keepsLaw_66 (by decide) (fun h66 => ?_) (fun h66 => ?_)
      · exact kk M1 _ hf (fun w hw2 => he w (by omega))
      · omega
    | succ m ih =>
      intro y M1 hy hf he
      refine z_withR (fun hR => ?_)
      refine ziload_10_9 dX6_keepsLaw_62 ?_
      refine ziload_10_6 dX6_keepsLaw_64 ?_
      refine z_icmp_ge (tgt := 93) (by first | omega | exact hR.1 _ _ (by decide) | exact zrng_toInt _) (by first | omega | exact hR.1 _ _ (by decide) | exact zrng_toInt _) dX6_keepsLaw_66 (by decide) (fun h66 => ?_) (fun h66 => ?_)
      · omega
      · refine zaload_10_0 dX6_keepsLaw_69 ?_
        refine zaload_10_1 dX6_keepsLaw_70 ?_
        refine ziload_10_2 dX6_keepsLaw_71 ?_
        refine ziload_10_3 dX6_keepsLaw_72 ?_
        refine ziload_10_8 dX6_keepsLaw_73 ?_
        refine ziload_10_9 dX6_keepsLaw_75 ?_
        refine ziload_10_7 dX6_keepsLaw_77 ?_
        refine zc_Table_66 rfl dX6_keepsLaw_79 (by decide) (Nat.le_of_ble_eq_true rfl) (sp_Table_alikeForZ M1 L R T n k a b x y (thF n N 2) hn (ht.fr hf (by decide) (by decide)) (hT.fr hf (by decide) (by decide) (by decide) (by decide)) ha hb (by omega) (by omega) t2.1) (fun r79 M79 hq79 => ?_)
        refine z_withR (fun hR => ?_)
        obtain ⟨hf2, rfl⟩ := hq79
        have hf3 : zfr [16] M M79 := hf.tr hf2 (fun _ h => h) (fun _ h => h)
        refine z_if_ne (tgt := 87) (by split <;> omega) dX6_keepsLaw_82 (by decide) (fun h82 => ?_) (fun h82 => ?_)
        · have hyes : ∀ z, z < thF n N 2 → ev L R n k x y z a = ev L R n k x y z b := by revert h82; split <;> simp_all
          refine ziinc_10_9 dX6_keepsLaw_87 ?_
          refine z_goto (tgt := 62) dX6_keepsLaw_90 (by decide) ?_
          refine ih (y + 1) M79 (by omega) hf3 (fun w hw2 => ?_)
          rcases Nat.lt_or_ge w y with q | q
          · exact he w q
          · rw [show w = y by omega]; exact hyes
        · have hno : ¬ ∀ z, z < thF n N 2 → ev L R n k x y z a = ev L R n k x y z b := by revert h82; split <;> simp_all
          refine z_iconst dX6_keepsLaw_85 ?_
          refine z_zret rfl (by omega) ?_ dX6_keepsLaw_86
          rw [hpost]
          refine ⟨hf3, ?_⟩
          rw [if_neg (fun h => hno (hkp.mp h x hx y (by omega)))]
  have outer : ∀ (m x : Nat) (M1 : zMem) (g : Option zAV), x + m = thF n N 0 → zfr [16] M M1 → (∀ v, v < x → ∀ y, y < thF n N 1 → ∀ z, z < thF n N 2 → ev L R n k v y z a = ev L R n k v y z b) → zV zd_Table_keepsLaw 1 52 [some (zr 3), some (zr 1), some (zi a), some (zi b), some (zi N), some (zi (thF n N 0)), some (zi (thF n N 1)), some (zi (thF n N 2)), some (zi x), g] [] M1 post := by
    intro m
    induction m with
    | zero =>
      intro x M1 g hx hf he
      refine z_withR (fun hR => ?_)
      refine ziload_10_8 dX6_keepsLaw_52 ?_
      refine ziload_10_5 dX6_keepsLaw_54 ?_
      refine z_icmp_ge (tgt := 99) (by first | omega | exact hR.1 _ _ (by decide) | exact zrng_toInt _) (by first | omega | exact hR.1 _ _ (by decide) | exact zrng_toInt _) dX6_keepsLaw_56 (by decide) (fun h56 => ?_) (fun h56 => ?_)
      · refine z_iconst dX6_keepsLaw_99 ?_
        refine z_zret rfl (by omega) ?_ dX6_keepsLaw_100
        rw [hpost]
        exact ⟨hf, by rw [if_pos (hkp.mpr (fun v hv => he v (by omega)))]⟩
      · omega
    | succ m ih =>
      intro x M1 g hx hf he
      refine z_withR (fun hR => ?_)
      have k93 : ∀ (M2 : zMem) (g : Option zAV), zfr [16] M M2 → (∀ y, y < thF n N 1 → ∀ z, z < thF n N 2 → ev L R n k x y z a = ev L R n k x y z b) → zV zd_Table_keepsLaw 1 93 [some (zr 3), some (zr 1), some (zi a), some (zi b), some (zi N), some (zi (thF n N 0)), some (zi (thF n N 1)), some (zi (thF n N 2)), some (zi x), g] [] M2 post := by
        intro M2 g hf2 hx2
        refine ziinc_10_8 dX6_keepsLaw_93 ?_
        refine z_goto (tgt := 52) dX6_keepsLaw_96 (by decide) ?_
        refine ih (x + 1) M2 _ (by omega) hf2 (fun v hv => ?_)
        rcases Nat.lt_or_ge v x with q | q
        · exact he v q
        · rw [show v = x by omega]; exact hx2
      refine ziload_10_8 dX6_keepsLaw_52 ?_
      refine ziload_10_5 dX6_keepsLaw_54 ?_
      refine z_icmp_ge (tgt := 99) (by first | omega | exact hR.1 _ _ (by decide) | exact zrng_toInt _) (by first | omega | exact hR.1 _ _ (by decide) | exact zrng_toInt _) dX6_keepsLaw_56 (by decide) (fun h56 => ?_) (fun h56 => ?_)
      · omega
      · refine z_iconst dX6_keepsLaw_59 ?_
        refine zistore_10_9 dX6_keepsLaw_60 ?_
        exact inner x (by omega) k93 (thF n N 1) 0 M1 (by omega) hf (fun w hw2 => by omega)
  refine ziload_10_2 dX6_keepsLaw_0 ?_
  refine ziload_10_3 dX6_keepsLaw_1 ?_
  refine z_icmp_ne (tgt := 7) (by first | omega | exact hR.1 _ _ (by decide) | exact zrng_toInt _) (by first | omega | exact hR.1 _ _ (by decide) | exact zrng_toInt _) dX6_keepsLaw_2 (by decide) (fun h2 => ?_) (fun h2 => ?_)
  · refine zaload_10_1 dX6_keepsLaw_7 ?_
    refine zg_Table_54 rfl dX6_keepsLaw_8 ?_
    refine ziload_10_2 dX6_keepsLaw_11 ?_
    refine z_iald _ rfl (by decide) (by decide) rfl (by omega) dX6_keepsLaw_12 ?_
    refine z_top (hnd a ha) ?_
    refine zaload_10_1 dX6_keepsLaw_13 ?_
    refine zg_Table_54 rfl dX6_keepsLaw_14 ?_
    refine ziload_10_3 dX6_keepsLaw_17 ?_
    refine z_iald _ rfl (by decide) (by decide) rfl (by omega) dX6_keepsLaw_18 ?_
    refine z_top (hnd b hb) ?_
    refine z_ior dX6_keepsLaw_19 ?_
    refine z_top hor ?_
    refine zistore_10_4 dX6_keepsLaw_20 ?_
    refine zaload_10_0 dX6_keepsLaw_22 ?_
    refine z_iconst dX6_keepsLaw_23 ?_
    refine ziload_10_4 dX6_keepsLaw_24 ?_
    refine zc_Table_63 rfl dX6_keepsLaw_26 (by decide) (Nat.le_of_ble_eq_true rfl) (sp_Table_thingsFor M n 0 N ht.1 hn (by omega) hNb) (fun r26 M26 hq26 => ?_)
    refine z_withR (fun hR => ?_)
    obtain ⟨rfl, rfl⟩ := hq26
    refine zistore_10_5 dX6_keepsLaw_29 ?_
    refine zaload_10_0 dX6_keepsLaw_31 ?_
    refine z_iconst dX6_keepsLaw_32 ?_
    refine ziload_10_4 dX6_keepsLaw_33 ?_
    refine zc_Table_63 rfl dX6_keepsLaw_35 (by decide) (Nat.le_of_ble_eq_true rfl) (sp_Table_thingsFor M26 n 1 N ht.1 hn (by omega) hNb) (fun r35 M35 hq35 => ?_)
    refine z_withR (fun hR => ?_)
    obtain ⟨rfl, rfl⟩ := hq35
    refine zistore_10_6 dX6_keepsLaw_38 ?_
    refine zaload_10_0 dX6_keepsLaw_40 ?_
    refine z_iconst dX6_keepsLaw_41 ?_
    refine ziload_10_4 dX6_keepsLaw_42 ?_
    refine zc_Table_63 rfl dX6_keepsLaw_44 (by decide) (Nat.le_of_ble_eq_true rfl) (sp_Table_thingsFor M35 n 2 N ht.1 hn (by omega) hNb) (fun r44 M44 hq44 => ?_)
    refine z_withR (fun hR => ?_)
    obtain ⟨rfl, rfl⟩ := hq44
    refine zistore_10_7 dX6_keepsLaw_47 ?_
    refine z_iconst dX6_keepsLaw_49 ?_
    refine zistore_10_8 dX6_keepsLaw_50 ?_
    exact outer (thF n N 0) 0 _ _ (by omega) zfr.rf (fun v hv => by omega)
  · refine z_withR (fun hR => ?_)
    refine z_iconst dX6_keepsLaw_5 ?_
    refine z_zret rfl (by omega) ?_ dX6_keepsLaw_6
    rw [hpost]
    refine ⟨zfr.rf, ?_⟩
    have : a = b := by omega
    subst this
    rw [if_pos (by simp [kp])]
/-- two terms are the same for x, y and all z -/
def alz (L R : Nat → Nat) (n k a b j : Nat) : Bool := decide (∀ z, z < n → ev L R n k (j / n) (j % n) z a = ev L R n k (j / n) (j % n) z b)
theorem alz_th {L R : Nat → Nat} {T n k a b x y : Nat} (hw : wfT L R T) (hn : okn n) (ha : a < T) (hb : b < T) (hy : y < n) : (alz L R n k a b (x * n + y) = true) ↔ ∀ z, z < thF n (nd L R a ||| nd L R b) 2 → ev L R n k x y z a = ev L R n k x y z b := by
  unfold alz
  rw [decide_eq_true_eq, pair_div hy, pair_mod hy]
  constructor
  · intro h z hz
    exact h z (Nat.lt_of_lt_of_le hz (thF_le hn).1)
  · intro h z hz
    by_cases hb2 : (nd L R a ||| nd L R b).testBit 2 = true
    · exact h z (by unfold thF; rw [if_pos hb2]; exact hz)
    · have h0 := h 0 (by unfold thF; rw [if_neg hb2]; decide)
      rw [ev_indep (z' := 0) hw ha (fun _ => rfl) (fun _ => rfl) (fun h2 => absurd (by rw [Nat.testBit_or, h2]; rfl) hb2), ev_indep (t := b) (z' := 0) hw hb (fun _ => rfl) (fun _ => rfl) (fun h2 => absurd (by rw [Nat.testBit_or, h2]; simp) hb2)]
      exact h0
theorem sp_Table_pairsAlike (M : zMem) (L R : Nat → Nat) (T n k a b : Nat) (hn : okn n) (ht : tbl M n k) (hT : tmC M L R T) (ha : a < T) (hb : b < T) : zSp zd_Table_pairsAlike 1 [zr 3, zr 1, zi a, zi b] M (fun v M' => zfr [16] M M' ∧ v = bm (alz L R n k a b) (n * n)) := by
  refine zSp_in 4 [some (zr 3), some (zr 1), some (zi a), some (zi b), none, none, none, none] rfl rfl (by decide +kernel) rfl ?_
  refine z_withR (fun hR => ?_)
  have hn3 := hn.le
  have hn0 := hn.pos
  obtain ⟨hT1, hT3, hT20, hw, hLR, hnd⟩ := id hT
  have na := nd_lt20 hw hT20 ha
  have nb := nd_lt20 hw hT20 hb
  have hor := zOr_nat (a := nd L R a) (b := nd L R b) (by omega) (by omega)
  have hNb := nd_or_lt hw hT20 ha hb
  have hal := fun x y hy => alz_th (k := k) (x := x) (y := y) hw hn ha hb hy
  generalize nd L R a ||| nd L R b = N at hor hNb hal
  have hq := sq_le hn
  have hbm : ∀ j, j ≤ n * n → bm (alz L R n k a b) j < 512 := fun j hj => Nat.lt_of_lt_of_le (bm_lt _ j) (show 2 ^ j ≤ 2 ^ 9 from Nat.pow_le_pow_right (by decide) (by omega))
  obtain ⟨post, hpost⟩ : ∃ post : Int → zMem → Prop, post = (fun (v : Int) M' => zfr [16] M M' ∧ v = bm (alz L R n k a b) (n * n)) := ⟨_, rfl⟩
  rw [← hpost]
  have t2 := thF_le (N := N) (l := 2) hn
  generalize hA : alz L R n k a b = A at hal hbm hpost
  have inner : ∀ (x : Nat), x < n → (∀ (M2 : zMem), zfr [16] M M2 → zV zd_Table_pairsAlike 1 86 [some (zr 3), some (zr 1), some (zi a), some (zi b), some (zi (thF n N 2)), some (zi (bm A (x * n + n))), some (zi x), some (zi n)] [] M2 post) →
      ∀ (m y : Nat) (M1 : zMem), y + m = n → zfr [16] M M1 → zV zd_Table_pairsAlike 1 38 [some (zr 3), some (zr 1), some (zi a), some (zi b), some (zi (thF n N 2)), some (zi (bm A (x * n + y))), some (zi x), some (zi y)] [] M1 post := by
    intro x hx kk m
    induction m with
    | zero =>
      intro y M1 hy hf
      refine z_withR (fun hR => ?_)
      have hs1 : M1 3 2 = n := by rw [hf 3 (by decide)]; exact ht.1
      refine ziload_8_7 dX6_pairsAlike_38 ?_
      refine zaload_8_0 dX6_pairsAlike_40 ?_
      refine zg_Table_20 rfl dX6_pairsAlike_41 ?_
      refine z_top hs1 ?_
      refine z_icmp_ge (tgt := 86) (by first | omega | exact hR.1 _ _ (by decide) | exact zrng_toInt _) (by first | omega | exact hR.1 _ _ (by decide) | exact zrng_toInt _) dX6_pairsAlike_44 (by decide) (fun h44 => ?_) (fun h44 => ?_)
      · rw [show y = n by omega]
        exact kk M1 hf
      · omega
    | succ m ih =>
      intro y M1 hy hf
      refine z_withR (fun hR => ?_)
      have hs1 : M1 3 2 = n := by rw [hf 3 (by decide)]; exact ht.1
      have hp := pair_lt hx (show y < n by omega)
      have hb1 := hbm (x * n + y) (by omega)
      have hal1 := hal x y (by omega)
      generalize hJ : x * n + y = J at hp hb1 hal1
      have hpw : 2 ^ J < 2 ^ 9 := Nat.pow_lt_pow_right (by decide) (by omega)
      refine ziload_8_7 dX6_pairsAlike_38 ?_
      refine zaload_8_0 dX6_pairsAlike_40 ?_
      refine zg_Table_20 rfl dX6_pairsAlike_41 ?_
      refine z_top hs1 ?_
      refine z_icmp_ge (tgt := 86) (by first | omega | exact hR.1 _ _ (by decide) | exact zrng_toInt _) (by first | omega | exact hR.1 _ _ (by decide) | exact zrng_toInt _) dX6_pairsAlike_44 (by decide) (fun h44 => ?_) (fun h44 => ?_)
      · omega
      · refine zaload_8_0 dX6_pairsAlike_47 ?_
        refine zaload_8_1 dX6_pairsAlike_48 ?_
        refine ziload_8_2 dX6_pairsAlike_49 ?_
        refine ziload_8_3 dX6_pairsAlike_50 ?_
        refine ziload_8_6 dX6_pairsAlike_51 ?_
        refine ziload_8_7 dX6_pairsAlike_53 ?_
        refine ziload_8_4 dX6_pairsAlike_55 ?_
        refine zc_Table_66 rfl dX6_pairsAlike_57 (by decide) (Nat.le_of_ble_eq_true rfl) (sp_Table_alikeForZ M1 L R T n k a b x y (thF n N 2) hn (ht.fr hf (by decide) (by decide)) (hT.fr hf (by decide) (by decide) (by decide) (by decide)) ha hb (by omega) (by omega) t2.1) (fun r57 M57 hq57 => ?_)
        refine z_withR (fun hR => ?_)
        obtain ⟨hf2, rfl⟩ := hq57
        have hf3 : zfr [16] M M57 := hf.tr hf2 (fun _ h => h) (fun _ h => h)
        have hs1 : M57 3 2 = n := by rw [hf3 3 (by decide)]; exact ht.1
        refine z_if_eq (tgt := 80) (by split <;> omega) dX6_pairsAlike_60 (by decide) (fun h60 => ?_) (fun h60 => ?_)
        · have hno : A J = false := by revert h60; rw [← Bool.not_eq_true, hal1]; split <;> simp_all
          have e1 : bm A (x * n + (y + 1)) = bm A J := by rw [← Nat.add_assoc, hJ]; exact bm_skip A hno
          refine ziinc_8_7 dX6_pairsAlike_80 ?_
          refine z_goto (tgt := 38) dX6_pairsAlike_83 (by decide) ?_
          first
            | exact ih (y + 1) M57 (by omega) hf3
            | (rw [← e1]; exact ih (y + 1) M57 (by omega) hf3)
        · have hyes : A J = true := by revert h60; rw [hal1]; split <;> simp_all
          have e1 : bm A (x * n + (y + 1)) = bm A J ||| 2 ^ J := by rw [← Nat.add_assoc, hJ]; exact (bm_or A hyes).symm
          refine ziload_8_5 dX6_pairsAlike_63 ?_
          refine z_iconst dX6_pairsAlike_65 ?_
          refine ziload_8_6 dX6_pairsAlike_66 ?_
          refine zaload_8_0 dX6_pairsAlike_68 ?_
          refine zg_Table_20 rfl dX6_pairsAlike_69 ?_
          refine z_top hs1 ?_
          refine z_imul dX6_pairsAlike_72 ?_
          refine ziload_8_7 dX6_pairsAlike_73 ?_
          refine z_iadd dX6_pairsAlike_75 ?_
          refine z_top (y := ((J : Nat) : Int)) (by rw [← hJ]; omega) ?_
          refine z_ishl dX6_pairsAlike_76 ?_
          refine z_top (zShl_one (by omega)) ?_
          refine z_ior dX6_pairsAlike_77 ?_
          refine z_top (zOr_nat (by omega) (by omega)) ?_
          rw [← e1]
          refine zistore_8_5 dX6_pairsAlike_78 ?_
          refine ziinc_8_7 dX6_pairsAlike_80 ?_
          refine z_goto (tgt := 38) dX6_pairsAlike_83 (by decide) ?_
          first
            | exact ih (y + 1) M57 (by omega) hf3
            | (rw [← e1]; exact ih (y + 1) M57 (by omega) hf3)
  have outer : ∀ (m x : Nat) (M1 : zMem) (g : Option zAV), x + m = n → zfr [16] M M1 → zV zd_Table_pairsAlike 1 26 [some (zr 3), some (zr 1), some (zi a), some (zi b), some (zi (thF n N 2)), some (zi (bm A (x * n))), some (zi x), g] [] M1 post := by
    intro m
    induction m with
    | zero =>
      intro x M1 g hx hf
      refine z_withR (fun hR => ?_)
      have hs1 : M1 3 2 = n := by rw [hf 3 (by decide)]; exact ht.1
      refine ziload_8_6 dX6_pairsAlike_26 ?_
      refine zaload_8_0 dX6_pairsAlike_28 ?_
      refine zg_Table_20 rfl dX6_pairsAlike_29 ?_
      refine z_top hs1 ?_
      refine z_icmp_ge (tgt := 92) (by first | omega | exact hR.1 _ _ (by decide) | exact zrng_toInt _) (by first | omega | exact hR.1 _ _ (by decide) | exact zrng_toInt _) dX6_pairsAlike_32 (by decide) (fun h32 => ?_) (fun h32 => ?_)
      · refine ziload_8_5 dX6_pairsAlike_92 ?_
        refine z_iret rfl ?_ dX6_pairsAlike_94
        rw [hpost]
        exact ⟨hf, by rw [show x = n by omega]⟩
      · omega
    | succ m ih =>
      intro x M1 g hx hf
      refine z_withR (fun hR => ?_)
      have hs1 : M1 3 2 = n := by rw [hf 3 (by decide)]; exact ht.1
      have k86 : ∀ (M2 : zMem), zfr [16] M M2 → zV zd_Table_pairsAlike 1 86 [some (zr 3), some (zr 1), some (zi a), some (zi b), some (zi (thF n N 2)), some (zi (bm A (x * n + n))), some (zi x), some (zi n)] [] M2 post := by
        intro M2 hf2
        refine ziinc_8_6 dX6_pairsAlike_86 ?_
        refine z_goto (tgt := 26) dX6_pairsAlike_89 (by decide) ?_
        have := ih (x + 1) M2 (some (zi n)) (by omega) hf2
        rw [Nat.succ_mul] at this
        exact this
      refine ziload_8_6 dX6_pairsAlike_26 ?_
      refine zaload_8_0 dX6_pairsAlike_28 ?_
      refine zg_Table_20 rfl dX6_pairsAlike_29 ?_
      refine z_top hs1 ?_
      refine z_icmp_ge (tgt := 92) (by first | omega | exact hR.1 _ _ (by decide) | exact zrng_toInt _) (by first | omega | exact hR.1 _ _ (by decide) | exact zrng_toInt _) dX6_pairsAlike_32 (by decide) (fun h32 => ?_) (fun h32 => ?_)
      · omega
      · refine z_iconst dX6_pairsAlike_35 ?_
        refine zistore_8_7 dX6_pairsAlike_36 ?_
        exact inner x (by omega) k86 n 0 M1 (by omega) hf
  refine zaload_8_0 dX6_pairsAlike_0 ?_
  refine z_iconst dX6_pairsAlike_1 ?_
  refine zaload_8_1 dX6_pairsAlike_2 ?_
  refine zg_Table_54 rfl dX6_pairsAlike_3 ?_
  refine ziload_8_2 dX6_pairsAlike_6 ?_
  refine z_iald _ rfl (by decide) (by decide) rfl (by omega) dX6_pairsAlike_7 ?_
  refine z_top (hnd a ha) ?_
  refine zaload_8_1 dX6_pairsAlike_8 ?_
  refine zg_Table_54 rfl dX6_pairsAlike_9 ?_
  refine ziload_8_3 dX6_pairsAlike_12 ?_
  refine z_iald _ rfl (by decide) (by decide) rfl (by omega) dX6_pairsAlike_13 ?_
  refine z_top (hnd b hb) ?_
  refine z_ior dX6_pairsAlike_14 ?_
  refine z_top hor ?_
  refine zc_Table_63 rfl dX6_pairsAlike_15 (by decide) (Nat.le_of_ble_eq_true rfl) (sp_Table_thingsFor M n 2 N ht.1 hn (by omega) hNb) (fun r15 M15 hq15 => ?_)
  refine z_withR (fun hR => ?_)
  obtain ⟨rfl, rfl⟩ := hq15
  refine zistore_8_4 dX6_pairsAlike_18 ?_
  refine z_iconst dX6_pairsAlike_20 ?_
  refine zistore_8_5 dX6_pairsAlike_21 ?_
  refine z_iconst dX6_pairsAlike_23 ?_
  refine zistore_8_6 dX6_pairsAlike_24 ?_
  have := outer n 0 M15 none (by omega) zfr.rf
  rw [Nat.zero_mul] at this
  exact this
theorem sp_Table_turnAbout (M : zMem) (n k : Nat) (hn : okn n) (ht : tbl M n k) : zSp zd_Table_turnAbout 0 [zr 3] M (fun _ M' => zfr [15] M M' ∧ tbl M' n (tau n k)) := by
  refine zSp_in 3 [some (zr 3), none, none, none] rfl rfl (by decide +kernel) rfl ?_
  refine z_withR (fun hR => ?_)
  have hn3 := hn.le
  have hn0 := hn.pos
  have hq := sq_le hn
  obtain ⟨post, hpost⟩ : ∃ post : Int → zMem → Prop, post = (fun (_ : Int) M' => zfr [15] M M' ∧ tbl M' n (tau n k)) := ⟨_, rfl⟩
  rw [← hpost]
  have inj : ∀ {a b c d : Nat}, b < n → d < n → a * n + b = c * n + d → a = c ∧ b = d := by
    intro a b c d hb hd h
    have h1 := congrArg (fun q => q / n) h
    have h2 := congrArg (fun q => q % n) h
    simp only [pair_div hb, pair_div hd, pair_mod hb, pair_mod hd] at h1 h2
    exact ⟨h1, h2⟩
  have inner : ∀ (x : Nat), x < n → (∀ (M2 : zMem) (g g2 : Option zAV), zfr [15] M M2 → (∀ a b, a < n → b < n → M2 15 (a * n + b) = if (a < x + 1 ∧ b < x + 1) then dg n k (b * n + a) else dg n k (a * n + b)) → zV zd_Table_turnAbout 0 77 [some (zr 3), some (zi x), g, g2] [] M2 post) →
      ∀ (m y : Nat) (M1 : zMem) (g : Option zAV), y + m = x → zfr [15] M M1 → (∀ a b, a < n → b < n → M1 15 (a * n + b) = if (a < x ∧ b < x) ∨ (a = x ∧ b < y) ∨ (b = x ∧ a < y) then dg n k (b * n + a) else dg n k (a * n + b)) → zV zd_Table_turnAbout 0 12 [some (zr 3), some (zi x), some (zi y), g] [] M1 post := by
    intro x hx kk m
    induction m with
    | zero =>
      intro y M1 g hy hf hc
      refine z_withR (fun hR => ?_)
      refine ziload_4_2 dX6_turnAbout_12 ?_
      refine ziload_4_1 dX6_turnAbout_13 ?_
      refine z_icmp_ge (tgt := 77) (by first | omega | exact hR.1 _ _ (by decide) | exact zrng_toInt _) (by first | omega | exact hR.1 _ _ (by decide) | exact zrng_toInt _) dX6_turnAbout_14 (by decide) (fun h14 => ?_) (fun h14 => ?_)
      · refine kk M1 _ _ hf (fun a b ha hb => ?_)
        rw [hc a b ha hb]
        by_cases hab : a = b
        · subst hab; split <;> split <;> rfl
        · by_cases h1 : (a < x ∧ b < x) ∨ (a = x ∧ b < y) ∨ (b = x ∧ a < y)
          · rw [if_pos h1, if_pos (by omega)]
          · rw [if_neg h1, if_neg (by omega)]
      · omega
    | succ m ih =>
      intro y M1 g hy hf hc
      refine z_withR (fun hR => ?_)
      have hs1 : M1 3 2 = n := by rw [hf 3 (by decide)]; exact ht.1
      have hp1 := pair_lt hx (show y < n by omega)
      have hp2 := pair_lt (show y < n by omega) hx
      have c1 := hc x y hx (by omega)
      have c2 := hc y x (by omega) hx
      rw [if_neg (by omega)] at c1 c2
      have d1 := dg_lt (n := n) (k := k) (j := x * n + y) hn0
      have d2 := dg_lt (n := n) (k := k) (j := y * n + x) hn0
      have hne : ¬ (y * n + x = x * n + y) := fun h => by have := inj hx (by omega) h; omega
      refine ziload_4_2 dX6_turnAbout_12 ?_
      refine ziload_4_1 dX6_turnAbout_13 ?_
      refine z_icmp_ge (tgt := 77) (by first | omega | exact hR.1 _ _ (by decide) | exact zrng_toInt _) (by first | omega | exact hR.1 _ _ (by decide) | exact zrng_toInt _) dX6_turnAbout_14 (by decide) (fun h14 => ?_) (fun h14 => ?_)
      · omega
      · refine zaload_4_0 dX6_turnAbout_17 ?_
        refine zg_Table_9 rfl dX6_turnAbout_18 ?_
        refine ziload_4_1 dX6_turnAbout_21 ?_
        refine zaload_4_0 dX6_turnAbout_22 ?_
        refine zg_Table_20 rfl dX6_turnAbout_23 ?_
        refine z_top hs1 ?_
        refine z_imul dX6_turnAbout_26 ?_
        refine ziload_4_2 dX6_turnAbout_27 ?_
        refine z_iadd dX6_turnAbout_28 ?_
        refine z_iald (x * n + y) rfl (by decide) (by decide) (by omega) (by omega) dX6_turnAbout_29 ?_
        refine z_top c1 ?_
        refine zistore_4_3 dX6_turnAbout_30 ?_
        refine zaload_4_0 dX6_turnAbout_31 ?_
        refine zg_Table_9 rfl dX6_turnAbout_32 ?_
        refine ziload_4_1 dX6_turnAbout_35 ?_
        refine zaload_4_0 dX6_turnAbout_36 ?_
        refine zg_Table_20 rfl dX6_turnAbout_37 ?_
        refine z_top hs1 ?_
        refine z_imul dX6_turnAbout_40 ?_
        refine ziload_4_2 dX6_turnAbout_41 ?_
        refine z_iadd dX6_turnAbout_42 ?_
        refine zaload_4_0 dX6_turnAbout_43 ?_
        refine zg_Table_9 rfl dX6_turnAbout_44 ?_
        refine ziload_4_2 dX6_turnAbout_47 ?_
        refine zaload_4_0 dX6_turnAbout_48 ?_
        refine zg_Table_20 rfl dX6_turnAbout_49 ?_
        refine z_top hs1 ?_
        refine z_imul dX6_turnAbout_52 ?_
        refine ziload_4_1 dX6_turnAbout_53 ?_
        refine z_iadd dX6_turnAbout_54 ?_
        refine z_iald (y * n + x) rfl (by decide) (by decide) (by omega) (by omega) dX6_turnAbout_55 ?_
        refine z_top c2 ?_
        refine z_iast (x * n + y) (by decide) rfl (by decide) (by decide) (by omega) (by omega) (by first | omega | exact hR.1 _ _ (by decide) | exact zrng_toInt _) dX6_turnAbout_56 ?_
        refine z_withR (fun hR => ?_)
        refine zaload_4_0 dX6_turnAbout_57 ?_
        refine zg_Table_9 rfl dX6_turnAbout_58 ?_
        refine ziload_4_2 dX6_turnAbout_61 ?_
        refine zaload_4_0 dX6_turnAbout_62 ?_
        refine zg_Table_20 rfl dX6_turnAbout_63 ?_
        refine z_top hs1 ?_
        refine z_imul dX6_turnAbout_66 ?_
        refine ziload_4_1 dX6_turnAbout_67 ?_
        refine z_iadd dX6_turnAbout_68 ?_
        refine ziload_4_3 dX6_turnAbout_69 ?_
        refine z_iast (y * n + x) (by decide) rfl (by decide) (by decide) (by omega) (by omega) (by first | omega | exact hR.1 _ _ (by decide) | exact zrng_toInt _) dX6_turnAbout_70 ?_
        refine z_withR (fun hR => ?_)
        refine ziinc_4_2 dX6_turnAbout_71 ?_
        refine z_goto (tgt := 12) dX6_turnAbout_74 (by decide) ?_
        refine ih (y + 1) _ _ (by omega) ((hf.mu (by decide)).mu (by decide)) (fun a b ha hb => ?_)
        by_cases e1 : a = y ∧ b = x
        · obtain ⟨rfl, rfl⟩ := e1
          rw [zmu_same, if_pos (by omega)]
        · rw [zmu_ne _ _ _ _ (fun h => e1 (inj hb hx h))]
          by_cases e2 : a = x ∧ b = y
          · obtain ⟨rfl, rfl⟩ := e2
            rw [zmu_same, if_pos (by omega)]
          · rw [zmu_ne _ _ _ _ (fun h => e2 (inj hb (by omega) h)), hc a b ha hb]
            by_cases h1 : (a < x ∧ b < x) ∨ (a = x ∧ b < y) ∨ (b = x ∧ a < y)
            · rw [if_pos h1, if_pos (by omega)]
            · rw [if_neg h1, if_neg (by omega)]
  have outer : ∀ (m x : Nat) (M1 : zMem) (g g2 : Option zAV), x + m = n → zfr [15] M M1 → (∀ a b, a < n → b < n → M1 15 (a * n + b) = if (a < x ∧ b < x) then dg n k (b * n + a) else dg n k (a * n + b)) → zV zd_Table_turnAbout 0 2 [some (zr 3), some (zi x), g, g2] [] M1 post := by
    intro m
    induction m with
    | zero =>
      intro x M1 g g2 hx hf hc
      refine z_withR (fun hR => ?_)
      have hs1 : M1 3 2 = n := by rw [hf 3 (by decide)]; exact ht.1
      refine ziload_4_1 dX6_turnAbout_2 ?_
      refine zaload_4_0 dX6_turnAbout_3 ?_
      refine zg_Table_20 rfl dX6_turnAbout_4 ?_
      refine z_top hs1 ?_
      refine z_icmp_ge (tgt := 83) (by first | omega | exact hR.1 _ _ (by decide) | exact zrng_toInt _) (by first | omega | exact hR.1 _ _ (by decide) | exact zrng_toInt _) dX6_turnAbout_7 (by decide) (fun h7 => ?_) (fun h7 => ?_)
      · refine z_vret rfl ?_ dX6_turnAbout_83
        rw [hpost]
        refine ⟨hf, hs1, fun j hj => ?_⟩
        have h1 := div_lt_n hj
        have h2 := Nat.mod_lt j hn0
        have := hc (j / n) (j % n) h1 h2
        rw [pair_eq, if_pos (by omega)] at this
        rw [this, dg_tau hn hj]
        rfl
      · omega
    | succ m ih =>
      intro x M1 g g2 hx hf hc
      refine z_withR (fun hR => ?_)
      have hs1 : M1 3 2 = n := by rw [hf 3 (by decide)]; exact ht.1
      have k77 : ∀ (M2 : zMem) (g g2 : Option zAV), zfr [15] M M2 → (∀ a b, a < n → b < n → M2 15 (a * n + b) = if (a < x + 1 ∧ b < x + 1) then dg n k (b * n + a) else dg n k (a * n + b)) → zV zd_Table_turnAbout 0 77 [some (zr 3), some (zi x), g, g2] [] M2 post := by
        intro M2 g g2 hf2 hc2
        refine ziinc_4_1 dX6_turnAbout_77 ?_
        refine z_goto (tgt := 2) dX6_turnAbout_80 (by decide) ?_
        exact ih (x + 1) M2 _ _ (by omega) hf2 hc2
      refine ziload_4_1 dX6_turnAbout_2 ?_
      refine zaload_4_0 dX6_turnAbout_3 ?_
      refine zg_Table_20 rfl dX6_turnAbout_4 ?_
      refine z_top hs1 ?_
      refine z_icmp_ge (tgt := 83) (by first | omega | exact hR.1 _ _ (by decide) | exact zrng_toInt _) (by first | omega | exact hR.1 _ _ (by decide) | exact zrng_toInt _) dX6_turnAbout_7 (by decide) (fun h7 => ?_) (fun h7 => ?_)
      · omega
      · refine z_iconst dX6_turnAbout_10 ?_
        refine zistore_4_2 dX6_turnAbout_11 ?_
        refine inner x (by omega) k77 x 0 M1 _ (by omega) hf (fun a b ha hb => ?_)
        rw [hc a b ha hb]
        by_cases h1 : (a < x ∧ b < x)
        · rw [if_pos h1, if_pos (by omega)]
        · rw [if_neg h1, if_neg (by omega)]
  refine z_iconst dX6_turnAbout_0 ?_
  refine zistore_4_1 dX6_turnAbout_1 ?_
  refine outer n 0 M _ _ (by omega) zfr.rf (fun a b ha hb => ?_)
  rw [if_neg (by omega)]
  exact ht.2 _ (pair_lt ha hb)
